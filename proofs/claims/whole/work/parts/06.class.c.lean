theorem dX5_jumpEpoch_21 : decode cX5_jumpEpoch 21 = .ok (.iinc 3 1, 3) := by decide +kernel
theorem dX5_jumpEpoch_24 : decode cX5_jumpEpoch 24 = .ok (.goto (-20), 3) := by decide +kernel
theorem dX5_jumpEpoch_27 : decode cX5_jumpEpoch 27 = .ok (.bipush (-4), 2) := by decide +kernel
theorem dX5_jumpEpoch_29 : decode cX5_jumpEpoch 29 = .ok (.istore_n 3, 1) := by decide +kernel
theorem dX5_jumpEpoch_30 : decode cX5_jumpEpoch 30 = .ok (.lconst 0, 1) := by decide +kernel
theorem dX5_jumpEpoch_31 : decode cX5_jumpEpoch 31 = .ok (.lstore 4, 2) := by decide +kernel
theorem dX5_jumpEpoch_33 : decode cX5_jumpEpoch 33 = .ok (.lconst 1, 1) := by decide +kernel
theorem dX5_jumpEpoch_34 : decode cX5_jumpEpoch 34 = .ok (.lstore 6, 2) := by decide +kernel
theorem dX5_jumpEpoch_36 : decode cX5_jumpEpoch 36 = .ok (.lconst 0, 1) := by decide +kernel
theorem dX5_jumpEpoch_37 : decode cX5_jumpEpoch 37 = .ok (.lstore 8, 2) := by decide +kernel
theorem dX5_jumpEpoch_39 : decode cX5_jumpEpoch 39 = .ok (.iconst 0, 1) := by decide +kernel
theorem dX5_jumpEpoch_40 : decode cX5_jumpEpoch 40 = .ok (.istore 10, 2) := by decide +kernel
theorem dX5_jumpEpoch_42 : decode cX5_jumpEpoch 42 = .ok (.iload 10, 2) := by decide +kernel
theorem dX5_jumpEpoch_44 : decode cX5_jumpEpoch 44 = .ok (.aload_n 0, 1) := by decide +kernel
theorem dX5_jumpEpoch_45 : decode cX5_jumpEpoch 45 = .ok (.getfield 19, 3) := by decide +kernel
theorem dX5_jumpEpoch_48 : decode cX5_jumpEpoch 48 = .ok (.if_icmp .ge 114, 3) := by decide +kernel
theorem dX5_jumpEpoch_51 : decode cX5_jumpEpoch 51 = .ok (.aload_n 0, 1) := by decide +kernel
theorem dX5_jumpEpoch_52 : decode cX5_jumpEpoch 52 = .ok (.getfield 19, 3) := by decide +kernel
theorem dX5_jumpEpoch_55 : decode cX5_jumpEpoch 55 = .ok (.iload 10, 2) := by decide +kernel
theorem dX5_jumpEpoch_57 : decode cX5_jumpEpoch 57 = .ok (.isub, 1) := by decide +kernel
theorem dX5_jumpEpoch_58 : decode cX5_jumpEpoch 58 = .ok (.istore 11, 2) := by decide +kernel
theorem dX5_jumpEpoch_60 : decode cX5_jumpEpoch 60 = .ok (.iload 10, 2) := by decide +kernel
theorem dX5_jumpEpoch_62 : decode cX5_jumpEpoch 62 = .ok (.iconst 2, 1) := by decide +kernel
theorem dX5_jumpEpoch_63 : decode cX5_jumpEpoch 63 = .ok (.if_icmp .lt 71, 3) := by decide +kernel
theorem dX5_jumpEpoch_66 : decode cX5_jumpEpoch 66 = .ok (.iload 11, 2) := by decide +kernel
theorem dX5_jumpEpoch_68 : decode cX5_jumpEpoch 68 = .ok (.iconst 2, 1) := by decide +kernel
theorem dX5_jumpEpoch_69 : decode cX5_jumpEpoch 69 = .ok (.if_icmp .lt 65, 3) := by decide +kernel
theorem dX5_jumpEpoch_72 : decode cX5_jumpEpoch 72 = .ok (.lload 8, 2) := by decide +kernel
theorem dX5_jumpEpoch_74 : decode cX5_jumpEpoch 74 = .ok (.iload 11, 2) := by decide +kernel
theorem dX5_jumpEpoch_76 : decode cX5_jumpEpoch 76 = .ok (.i2l, 1) := by decide +kernel
theorem dX5_jumpEpoch_77 : decode cX5_jumpEpoch 77 = .ok (.lmul, 1) := by decide +kernel
theorem dX5_jumpEpoch_78 : decode cX5_jumpEpoch 78 = .ok (.lload_n 1, 1) := by decide +kernel
theorem dX5_jumpEpoch_79 : decode cX5_jumpEpoch 79 = .ok (.iload 10, 2) := by decide +kernel
theorem dX5_jumpEpoch_81 : decode cX5_jumpEpoch 81 = .ok (.i2l, 1) := by decide +kernel
theorem dX5_jumpEpoch_82 : decode cX5_jumpEpoch 82 = .ok (.lmul, 1) := by decide +kernel
theorem dX5_jumpEpoch_83 : decode cX5_jumpEpoch 83 = .ok (.lsub, 1) := by decide +kernel
theorem dX5_jumpEpoch_84 : decode cX5_jumpEpoch 84 = .ok (.invokestatic 37, 3) := by decide +kernel
theorem dX5_jumpEpoch_87 : decode cX5_jumpEpoch 87 = .ok (.lstore 12, 2) := by decide +kernel
theorem dX5_jumpEpoch_89 : decode cX5_jumpEpoch 89 = .ok (.iload 10, 2) := by decide +kernel
theorem dX5_jumpEpoch_91 : decode cX5_jumpEpoch 91 = .ok (.i2l, 1) := by decide +kernel
theorem dX5_jumpEpoch_92 : decode cX5_jumpEpoch 92 = .ok (.iload 11, 2) := by decide +kernel
theorem dX5_jumpEpoch_94 : decode cX5_jumpEpoch 94 = .ok (.i2l, 1) := by decide +kernel
theorem dX5_jumpEpoch_95 : decode cX5_jumpEpoch 95 = .ok (.lmul, 1) := by decide +kernel
theorem dX5_jumpEpoch_96 : decode cX5_jumpEpoch 96 = .ok (.lstore 14, 2) := by decide +kernel
theorem dX5_jumpEpoch_98 : decode cX5_jumpEpoch 98 = .ok (.iload_n 3, 1) := by decide +kernel
theorem dX5_jumpEpoch_99 : decode cX5_jumpEpoch 99 = .ok (.bipush (-4), 2) := by decide +kernel
theorem dX5_jumpEpoch_101 : decode cX5_jumpEpoch 101 = .ok (.if_icmp .eq 17, 3) := by decide +kernel
theorem dX5_jumpEpoch_104 : decode cX5_jumpEpoch 104 = .ok (.lload 12, 2) := by decide +kernel
theorem dX5_jumpEpoch_106 : decode cX5_jumpEpoch 106 = .ok (.lload 6, 2) := by decide +kernel
theorem dX5_jumpEpoch_108 : decode cX5_jumpEpoch 108 = .ok (.lmul, 1) := by decide +kernel
theorem dX5_jumpEpoch_109 : decode cX5_jumpEpoch 109 = .ok (.lload 4, 2) := by decide +kernel
theorem dX5_jumpEpoch_111 : decode cX5_jumpEpoch 111 = .ok (.lload 14, 2) := by decide +kernel
theorem dX5_jumpEpoch_113 : decode cX5_jumpEpoch 113 = .ok (.lmul, 1) := by decide +kernel
theorem dX5_jumpEpoch_114 : decode cX5_jumpEpoch 114 = .ok (.lcmp, 1) := by decide +kernel
theorem dX5_jumpEpoch_115 : decode cX5_jumpEpoch 115 = .ok (.ifCond .le 19, 3) := by decide +kernel
theorem dX5_jumpEpoch_118 : decode cX5_jumpEpoch 118 = .ok (.aload_n 0, 1) := by decide +kernel
theorem dX5_jumpEpoch_119 : decode cX5_jumpEpoch 119 = .ok (.getfield 9, 3) := by decide +kernel
theorem dX5_jumpEpoch_122 : decode cX5_jumpEpoch 122 = .ok (.iload 10, 2) := by decide +kernel
theorem dX5_jumpEpoch_124 : decode cX5_jumpEpoch 124 = .ok (.iaload, 1) := by decide +kernel
theorem dX5_jumpEpoch_125 : decode cX5_jumpEpoch 125 = .ok (.istore_n 3, 1) := by decide +kernel
theorem dX5_jumpEpoch_126 : decode cX5_jumpEpoch 126 = .ok (.lload 12, 2) := by decide +kernel
theorem dX5_jumpEpoch_128 : decode cX5_jumpEpoch 128 = .ok (.lstore 4, 2) := by decide +kernel
theorem dX5_jumpEpoch_130 : decode cX5_jumpEpoch 130 = .ok (.lload 14, 2) := by decide +kernel
theorem dX5_jumpEpoch_132 : decode cX5_jumpEpoch 132 = .ok (.lstore 6, 2) := by decide +kernel
theorem dX5_jumpEpoch_134 : decode cX5_jumpEpoch 134 = .ok (.lload 8, 2) := by decide +kernel
theorem dX5_jumpEpoch_136 : decode cX5_jumpEpoch 136 = .ok (.aload_n 0, 1) := by decide +kernel
theorem dX5_jumpEpoch_137 : decode cX5_jumpEpoch 137 = .ok (.getfield 15, 3) := by decide +kernel
theorem dX5_jumpEpoch_140 : decode cX5_jumpEpoch 140 = .ok (.iload 10, 2) := by decide +kernel
theorem dX5_jumpEpoch_142 : decode cX5_jumpEpoch 142 = .ok (.laload, 1) := by decide +kernel
theorem dX5_jumpEpoch_143 : decode cX5_jumpEpoch 143 = .ok (.ladd, 1) := by decide +kernel
theorem dX5_jumpEpoch_144 : decode cX5_jumpEpoch 144 = .ok (.lstore 8, 2) := by decide +kernel
theorem dX5_jumpEpoch_146 : decode cX5_jumpEpoch 146 = .ok (.lload_n 1, 1) := by decide +kernel
theorem dX5_jumpEpoch_147 : decode cX5_jumpEpoch 147 = .ok (.aload_n 0, 1) := by decide +kernel
theorem dX5_jumpEpoch_148 : decode cX5_jumpEpoch 148 = .ok (.getfield 15, 3) := by decide +kernel
theorem dX5_jumpEpoch_151 : decode cX5_jumpEpoch 151 = .ok (.iload 10, 2) := by decide +kernel
theorem dX5_jumpEpoch_153 : decode cX5_jumpEpoch 153 = .ok (.laload, 1) := by decide +kernel
theorem dX5_jumpEpoch_154 : decode cX5_jumpEpoch 154 = .ok (.lsub, 1) := by decide +kernel
theorem dX5_jumpEpoch_155 : decode cX5_jumpEpoch 155 = .ok (.lstore_n 1, 1) := by decide +kernel
theorem dX5_jumpEpoch_156 : decode cX5_jumpEpoch 156 = .ok (.iinc 10 1, 3) := by decide +kernel
theorem dX5_jumpEpoch_159 : decode cX5_jumpEpoch 159 = .ok (.goto (-117), 3) := by decide +kernel
theorem dX5_jumpEpoch_162 : decode cX5_jumpEpoch 162 = .ok (.iload_n 3, 1) := by decide +kernel
theorem dX5_jumpEpoch_163 : decode cX5_jumpEpoch 163 = .ok (.ireturn, 1) := by decide +kernel
theorem dX6_init_0 : decode cX6_init 0 = .ok (.aload_n 0, 1) := by decide +kernel
theorem dX6_init_1 : decode cX6_init 1 = .ok (.invokespecial 3, 3) := by decide +kernel
theorem dX6_init_4 : decode cX6_init 4 = .ok (.aload_n 0, 1) := by decide +kernel
theorem dX6_init_5 : decode cX6_init 5 = .ok (.bipush 60, 2) := by decide +kernel
theorem dX6_init_7 : decode cX6_init 7 = .ok (.newarray .long, 2) := by decide +kernel
theorem dX6_init_9 : decode cX6_init 9 = .ok (.putfield 9, 3) := by decide +kernel
theorem dX6_init_12 : decode cX6_init 12 = .ok (.aload_n 0, 1) := by decide +kernel
theorem dX6_init_13 : decode cX6_init 13 = .ok (.iconst 0, 1) := by decide +kernel
theorem dX6_init_14 : decode cX6_init 14 = .ok (.putfield 15, 3) := by decide +kernel
theorem dX6_init_17 : decode cX6_init 17 = .ok (.return_, 1) := by decide +kernel
theorem dX6_holds_0 : decode cX6_holds 0 = .ok (.aload_n 0, 1) := by decide +kernel
theorem dX6_holds_1 : decode cX6_holds 1 = .ok (.getfield 15, 3) := by decide +kernel
theorem dX6_holds_4 : decode cX6_holds 4 = .ok (.ireturn, 1) := by decide +kernel
theorem dX6_holdsRow_0 : decode cX6_holdsRow 0 = .ok (.aload_n 0, 1) := by decide +kernel
theorem dX6_holdsRow_1 : decode cX6_holdsRow 1 = .ok (.getfield 15, 3) := by decide +kernel
theorem dX6_holdsRow_4 : decode cX6_holdsRow 4 = .ok (.iconst 3, 1) := by decide +kernel
theorem dX6_holdsRow_5 : decode cX6_holdsRow 5 = .ok (.if_icmp .eq 11, 3) := by decide +kernel
theorem dX6_holdsRow_8 : decode cX6_holdsRow 8 = .ok (.aload_n 0, 1) := by decide +kernel
theorem dX6_holdsRow_9 : decode cX6_holdsRow 9 = .ok (.getfield 15, 3) := by decide +kernel
theorem dX6_holdsRow_12 : decode cX6_holdsRow 12 = .ok (.iconst 4, 1) := by decide +kernel
theorem dX6_holdsRow_13 : decode cX6_holdsRow 13 = .ok (.if_icmp .ne 7, 3) := by decide +kernel
theorem dX6_holdsRow_16 : decode cX6_holdsRow 16 = .ok (.iconst 1, 1) := by decide +kernel
theorem dX6_holdsRow_17 : decode cX6_holdsRow 17 = .ok (.goto 4, 3) := by decide +kernel
theorem dX6_holdsRow_20 : decode cX6_holdsRow 20 = .ok (.iconst 0, 1) := by decide +kernel
theorem dX6_holdsRow_21 : decode cX6_holdsRow 21 = .ok (.ireturn, 1) := by decide +kernel
theorem dX6_size_0 : decode cX6_size 0 = .ok (.aload_n 0, 1) := by decide +kernel
theorem dX6_size_1 : decode cX6_size 1 = .ok (.getfield 19, 3) := by decide +kernel
theorem dX6_size_4 : decode cX6_size 4 = .ok (.ireturn, 1) := by decide +kernel
theorem dX6_heldMark_0 : decode cX6_heldMark 0 = .ok (.aload_n 0, 1) := by decide +kernel
theorem dX6_heldMark_1 : decode cX6_heldMark 1 = .ok (.getfield 22, 3) := by decide +kernel
theorem dX6_heldMark_4 : decode cX6_heldMark 4 = .ok (.areturn, 1) := by decide +kernel
theorem dX6_valueAt_0 : decode cX6_valueAt 0 = .ok (.aload_n 0, 1) := by decide +kernel
theorem dX6_valueAt_1 : decode cX6_valueAt 1 = .ok (.getfield 9, 3) := by decide +kernel
theorem dX6_valueAt_4 : decode cX6_valueAt 4 = .ok (.iload_n 1, 1) := by decide +kernel
theorem dX6_valueAt_5 : decode cX6_valueAt 5 = .ok (.laload, 1) := by decide +kernel
theorem dX6_valueAt_6 : decode cX6_valueAt 6 = .ok (.lreturn, 1) := by decide +kernel
theorem dX6_clear_0 : decode cX6_clear 0 = .ok (.aload_n 0, 1) := by decide +kernel
theorem dX6_clear_1 : decode cX6_clear 1 = .ok (.iconst 0, 1) := by decide +kernel
theorem dX6_clear_2 : decode cX6_clear 2 = .ok (.putfield 15, 3) := by decide +kernel
theorem dX6_clear_5 : decode cX6_clear 5 = .ok (.aload_n 0, 1) := by decide +kernel
theorem dX6_clear_6 : decode cX6_clear 6 = .ok (.iconst 0, 1) := by decide +kernel
theorem dX6_clear_7 : decode cX6_clear 7 = .ok (.putfield 19, 3) := by decide +kernel
theorem dX6_clear_10 : decode cX6_clear 10 = .ok (.aload_n 0, 1) := by decide +kernel
theorem dX6_clear_11 : decode cX6_clear 11 = .ok (.aconst_null, 1) := by decide +kernel
theorem dX6_clear_12 : decode cX6_clear 12 = .ok (.putfield 22, 3) := by decide +kernel
theorem dX6_clear_15 : decode cX6_clear 15 = .ok (.return_, 1) := by decide +kernel
set_option maxRecDepth 20000 in
theorem ggX6_holdMark_X6_clear : GoodIn wsX6_holdMark wsX6_clear := goodIn_r _ [7, 1, 8, 2, 9, 10, 11, 12] (by decide +kernel) (by decide +kernel)
set_option maxRecDepth 20000 in
theorem gX6_holdMark_X6_clear : GoodIn wsX6_holdMark (wsV RX6 26 RX6 yX6_clear wsX6_clear) := goodIn_app (goodIn_of _ (by decide +kernel)) ggX6_holdMark_X6_clear
theorem dX6_holdMark_0 : decode cX6_holdMark 0 = .ok (.aload_n 0, 1) := by decide +kernel
theorem dX6_holdMark_1 : decode cX6_holdMark 1 = .ok (.invokevirtual 26, 3) := by decide +kernel
theorem dX6_holdMark_4 : decode cX6_holdMark 4 = .ok (.aload_n 0, 1) := by decide +kernel
theorem dX6_holdMark_5 : decode cX6_holdMark 5 = .ok (.iconst 1, 1) := by decide +kernel
theorem dX6_holdMark_6 : decode cX6_holdMark 6 = .ok (.putfield 15, 3) := by decide +kernel
theorem dX6_holdMark_9 : decode cX6_holdMark 9 = .ok (.aload_n 0, 1) := by decide +kernel
theorem dX6_holdMark_10 : decode cX6_holdMark 10 = .ok (.aload_n 1, 1) := by decide +kernel
theorem dX6_holdMark_11 : decode cX6_holdMark 11 = .ok (.putfield 22, 3) := by decide +kernel
theorem dX6_holdMark_14 : decode cX6_holdMark 14 = .ok (.return_, 1) := by decide +kernel
set_option maxRecDepth 20000 in
theorem ggX6_holdNoughts_X6_clear : GoodIn wsX6_holdNoughts wsX6_clear := goodIn_r _ [8, 1, 2, 9, 10, 11, 12, 13] (by decide +kernel) (by decide +kernel)
set_option maxRecDepth 20000 in
theorem gX6_holdNoughts_X6_clear : GoodIn wsX6_holdNoughts (wsV RX6 26 RX6 yX6_clear wsX6_clear) := goodIn_app (goodIn_of _ (by decide +kernel)) ggX6_holdNoughts_X6_clear
theorem dX6_holdNoughts_0 : decode cX6_holdNoughts 0 = .ok (.aload_n 0, 1) := by decide +kernel
theorem dX6_holdNoughts_1 : decode cX6_holdNoughts 1 = .ok (.invokevirtual 26, 3) := by decide +kernel
theorem dX6_holdNoughts_4 : decode cX6_holdNoughts 4 = .ok (.aload_n 0, 1) := by decide +kernel
theorem dX6_holdNoughts_5 : decode cX6_holdNoughts 5 = .ok (.iload_n 1, 1) := by decide +kernel
theorem dX6_holdNoughts_6 : decode cX6_holdNoughts 6 = .ok (.putfield 15, 3) := by decide +kernel
theorem dX6_holdNoughts_9 : decode cX6_holdNoughts 9 = .ok (.aload_n 0, 1) := by decide +kernel
theorem dX6_holdNoughts_10 : decode cX6_holdNoughts 10 = .ok (.iload_n 2, 1) := by decide +kernel
theorem dX6_holdNoughts_11 : decode cX6_holdNoughts 11 = .ok (.putfield 19, 3) := by decide +kernel
theorem dX6_holdNoughts_14 : decode cX6_holdNoughts 14 = .ok (.iconst 0, 1) := by decide +kernel
theorem dX6_holdNoughts_15 : decode cX6_holdNoughts 15 = .ok (.istore_n 3, 1) := by decide +kernel
theorem dX6_holdNoughts_16 : decode cX6_holdNoughts 16 = .ok (.iload_n 3, 1) := by decide +kernel
theorem dX6_holdNoughts_17 : decode cX6_holdNoughts 17 = .ok (.iload_n 2, 1) := by decide +kernel
theorem dX6_holdNoughts_18 : decode cX6_holdNoughts 18 = .ok (.if_icmp .ge 22, 3) := by decide +kernel
theorem dX6_holdNoughts_21 : decode cX6_holdNoughts 21 = .ok (.iload_n 3, 1) := by decide +kernel
theorem dX6_holdNoughts_22 : decode cX6_holdNoughts 22 = .ok (.bipush 60, 2) := by decide +kernel
theorem dX6_holdNoughts_24 : decode cX6_holdNoughts 24 = .ok (.if_icmp .ge 16, 3) := by decide +kernel
theorem dX6_holdNoughts_27 : decode cX6_holdNoughts 27 = .ok (.aload_n 0, 1) := by decide +kernel
theorem dX6_holdNoughts_28 : decode cX6_holdNoughts 28 = .ok (.getfield 9, 3) := by decide +kernel
theorem dX6_holdNoughts_31 : decode cX6_holdNoughts 31 = .ok (.iload_n 3, 1) := by decide +kernel
theorem dX6_holdNoughts_32 : decode cX6_holdNoughts 32 = .ok (.lconst 0, 1) := by decide +kernel
theorem dX6_holdNoughts_33 : decode cX6_holdNoughts 33 = .ok (.lastore, 1) := by decide +kernel
theorem dX6_holdNoughts_34 : decode cX6_holdNoughts 34 = .ok (.iinc 3 1, 3) := by decide +kernel
theorem dX6_holdNoughts_37 : decode cX6_holdNoughts 37 = .ok (.goto (-21), 3) := by decide +kernel
theorem dX6_holdNoughts_40 : decode cX6_holdNoughts 40 = .ok (.return_, 1) := by decide +kernel
set_option maxRecDepth 20000 in
theorem ggX6_holdSeries_X5_size : GoodIn wsX6_holdSeries wsX5_size := goodIn_r _ [6, 7, 34, 35, 36] (by decide +kernel) (by decide +kernel)
set_option maxRecDepth 20000 in
theorem gX6_holdSeries_X5_size : GoodIn wsX6_holdSeries (wsV RX6 29 RX5 yX5_size wsX5_size) := goodIn_app (goodIn_of _ (by decide +kernel)) ggX6_holdSeries_X5_size
set_option maxRecDepth 20000 in
theorem ggX6_holdSeries_X6_holdNoughts : GoodIn wsX6_holdSeries wsX6_holdNoughts := goodIn_r _ [12, 13, 14, 1, 15, 16, 17, 11, 18, 19, 30, 31, 32, 33] (by decide +kernel) (by decide +kernel)
set_option maxRecDepth 20000 in
theorem gX6_holdSeries_X6_holdNoughts : GoodIn wsX6_holdSeries (wsV RX6 34 RX6 yX6_holdNoughts wsX6_holdNoughts) := goodIn_app (goodIn_of _ (by decide +kernel)) ggX6_holdSeries_X6_holdNoughts
set_option maxRecDepth 20000 in
theorem ggX6_holdSeries_X5_epochAt : GoodIn wsX6_holdSeries wsX5_epochAt := goodIn_r _ [23, 24, 34, 35, 36] (by decide +kernel) (by decide +kernel)
set_option maxRecDepth 20000 in
theorem gX6_holdSeries_X5_epochAt : GoodIn wsX6_holdSeries (wsV RX6 38 RX5 yX5_epochAt wsX5_epochAt) := goodIn_app (goodIn_of _ (by decide +kernel)) ggX6_holdSeries_X5_epochAt
set_option maxRecDepth 20000 in
theorem ggX6_holdSeries_X5_valueAt : GoodIn wsX6_holdSeries wsX5_valueAt := goodIn_r _ [28, 29, 34, 35, 36] (by decide +kernel) (by decide +kernel)
set_option maxRecDepth 20000 in
theorem gX6_holdSeries_X5_valueAt : GoodIn wsX6_holdSeries (wsV RX6 42 RX5 yX5_valueAt wsX5_valueAt) := goodIn_app (goodIn_of _ (by decide +kernel)) ggX6_holdSeries_X5_valueAt
theorem dX6_holdSeries_0 : decode cX6_holdSeries 0 = .ok (.aload_n 0, 1) := by decide +kernel
theorem dX6_holdSeries_1 : decode cX6_holdSeries 1 = .ok (.iload_n 2, 1) := by decide +kernel
theorem dX6_holdSeries_2 : decode cX6_holdSeries 2 = .ok (.aload_n 1, 1) := by decide +kernel
theorem dX6_holdSeries_3 : decode cX6_holdSeries 3 = .ok (.invokevirtual 29, 3) := by decide +kernel
theorem dX6_holdSeries_6 : decode cX6_holdSeries 6 = .ok (.invokevirtual 34, 3) := by decide +kernel
theorem dX6_holdSeries_9 : decode cX6_holdSeries 9 = .ok (.iconst 0, 1) := by decide +kernel
theorem dX6_holdSeries_10 : decode cX6_holdSeries 10 = .ok (.istore_n 3, 1) := by decide +kernel
theorem dX6_holdSeries_11 : decode cX6_holdSeries 11 = .ok (.iload_n 3, 1) := by decide +kernel
theorem dX6_holdSeries_12 : decode cX6_holdSeries 12 = .ok (.aload_n 1, 1) := by decide +kernel
theorem dX6_holdSeries_13 : decode cX6_holdSeries 13 = .ok (.invokevirtual 29, 3) := by decide +kernel
theorem dX6_holdSeries_16 : decode cX6_holdSeries 16 = .ok (.if_icmp .ge 40, 3) := by decide +kernel
theorem dX6_holdSeries_19 : decode cX6_holdSeries 19 = .ok (.iload_n 3, 1) := by decide +kernel
theorem dX6_holdSeries_20 : decode cX6_holdSeries 20 = .ok (.bipush 60, 2) := by decide +kernel
theorem dX6_holdSeries_22 : decode cX6_holdSeries 22 = .ok (.if_icmp .ge 34, 3) := by decide +kernel
theorem dX6_holdSeries_25 : decode cX6_holdSeries 25 = .ok (.aload_n 0, 1) := by decide +kernel
theorem dX6_holdSeries_26 : decode cX6_holdSeries 26 = .ok (.getfield 9, 3) := by decide +kernel
theorem dX6_holdSeries_29 : decode cX6_holdSeries 29 = .ok (.iload_n 3, 1) := by decide +kernel
theorem dX6_holdSeries_30 : decode cX6_holdSeries 30 = .ok (.iload_n 2, 1) := by decide +kernel
theorem dX6_holdSeries_31 : decode cX6_holdSeries 31 = .ok (.iconst 3, 1) := by decide +kernel
theorem dX6_holdSeries_32 : decode cX6_holdSeries 32 = .ok (.if_icmp .ne 12, 3) := by decide +kernel
theorem dX6_holdSeries_35 : decode cX6_holdSeries 35 = .ok (.aload_n 1, 1) := by decide +kernel
theorem dX6_holdSeries_36 : decode cX6_holdSeries 36 = .ok (.iload_n 3, 1) := by decide +kernel
theorem dX6_holdSeries_37 : decode cX6_holdSeries 37 = .ok (.invokevirtual 38, 3) := by decide +kernel
theorem dX6_holdSeries_40 : decode cX6_holdSeries 40 = .ok (.i2l, 1) := by decide +kernel
theorem dX6_holdSeries_41 : decode cX6_holdSeries 41 = .ok (.goto 8, 3) := by decide +kernel
theorem dX6_holdSeries_44 : decode cX6_holdSeries 44 = .ok (.aload_n 1, 1) := by decide +kernel
theorem dX6_holdSeries_45 : decode cX6_holdSeries 45 = .ok (.iload_n 3, 1) := by decide +kernel
theorem dX6_holdSeries_46 : decode cX6_holdSeries 46 = .ok (.invokevirtual 42, 3) := by decide +kernel
theorem dX6_holdSeries_49 : decode cX6_holdSeries 49 = .ok (.lastore, 1) := by decide +kernel
theorem dX6_holdSeries_50 : decode cX6_holdSeries 50 = .ok (.iinc 3 1, 3) := by decide +kernel
theorem dX6_holdSeries_53 : decode cX6_holdSeries 53 = .ok (.goto (-42), 3) := by decide +kernel
theorem dX6_holdSeries_56 : decode cX6_holdSeries 56 = .ok (.return_, 1) := by decide +kernel
theorem dX6_hasPlaces_0 : decode cX6_hasPlaces 0 = .ok (.iload_n 1, 1) := by decide +kernel
theorem dX6_hasPlaces_1 : decode cX6_hasPlaces 1 = .ok (.ifCond .lt 21, 3) := by decide +kernel
theorem dX6_hasPlaces_4 : decode cX6_hasPlaces 4 = .ok (.iload_n 2, 1) := by decide +kernel
theorem dX6_hasPlaces_5 : decode cX6_hasPlaces 5 = .ok (.ifCond .lt 17, 3) := by decide +kernel
theorem dX6_hasPlaces_8 : decode cX6_hasPlaces 8 = .ok (.iload_n 1, 1) := by decide +kernel
theorem dX6_hasPlaces_9 : decode cX6_hasPlaces 9 = .ok (.aload_n 0, 1) := by decide +kernel
theorem dX6_hasPlaces_10 : decode cX6_hasPlaces 10 = .ok (.getfield 19, 3) := by decide +kernel
theorem dX6_hasPlaces_13 : decode cX6_hasPlaces 13 = .ok (.iload_n 2, 1) := by decide +kernel
theorem dX6_hasPlaces_14 : decode cX6_hasPlaces 14 = .ok (.isub, 1) := by decide +kernel
theorem dX6_hasPlaces_15 : decode cX6_hasPlaces 15 = .ok (.if_icmp .gt 7, 3) := by decide +kernel
theorem dX6_hasPlaces_18 : decode cX6_hasPlaces 18 = .ok (.iconst 1, 1) := by decide +kernel
theorem dX6_hasPlaces_19 : decode cX6_hasPlaces 19 = .ok (.goto 4, 3) := by decide +kernel
theorem dX6_hasPlaces_22 : decode cX6_hasPlaces 22 = .ok (.iconst 0, 1) := by decide +kernel
theorem dX6_hasPlaces_23 : decode cX6_hasPlaces 23 = .ok (.ireturn, 1) := by decide +kernel
theorem dX6_copyPlaces_0 : decode cX6_copyPlaces 0 = .ok (.aload_n 0, 1) := by decide +kernel
theorem dX6_copyPlaces_1 : decode cX6_copyPlaces 1 = .ok (.getfield 9, 3) := by decide +kernel
theorem dX6_copyPlaces_4 : decode cX6_copyPlaces 4 = .ok (.iload_n 1, 1) := by decide +kernel
theorem dX6_copyPlaces_5 : decode cX6_copyPlaces 5 = .ok (.aload_n 2, 1) := by decide +kernel
theorem dX6_copyPlaces_6 : decode cX6_copyPlaces 6 = .ok (.getfield 9, 3) := by decide +kernel
theorem dX6_copyPlaces_9 : decode cX6_copyPlaces 9 = .ok (.iload_n 3, 1) := by decide +kernel
theorem dX6_copyPlaces_10 : decode cX6_copyPlaces 10 = .ok (.iload 4, 2) := by decide +kernel
theorem dX6_copyPlaces_12 : decode cX6_copyPlaces 12 = .ok (.invokestatic 46, 3) := by decide +kernel
theorem dX6_copyPlaces_15 : decode cX6_copyPlaces 15 = .ok (.return_, 1) := by decide +kernel
theorem dX7_init_0 : decode cX7_init 0 = .ok (.aload_n 0, 1) := by decide +kernel
theorem dX7_init_1 : decode cX7_init 1 = .ok (.invokespecial 3, 3) := by decide +kernel
theorem dX7_init_4 : decode cX7_init 4 = .ok (.aload_n 0, 1) := by decide +kernel
theorem dX7_init_5 : decode cX7_init 5 = .ok (.iconst 3, 1) := by decide +kernel
theorem dX7_init_6 : decode cX7_init 6 = .ok (.newarray .int, 2) := by decide +kernel
theorem dX7_init_8 : decode cX7_init 8 = .ok (.putfield 9, 3) := by decide +kernel
theorem dX7_init_11 : decode cX7_init 11 = .ok (.aload_n 0, 1) := by decide +kernel
theorem dX7_init_12 : decode cX7_init 12 = .ok (.iconst 3, 1) := by decide +kernel
theorem dX7_init_13 : decode cX7_init 13 = .ok (.newarray .int, 2) := by decide +kernel
theorem dX7_init_15 : decode cX7_init 15 = .ok (.putfield 15, 3) := by decide +kernel
theorem dX7_init_18 : decode cX7_init 18 = .ok (.return_, 1) := by decide +kernel
theorem dX7_forget_0 : decode cX7_forget 0 = .ok (.aload_n 0, 1) := by decide +kernel
theorem dX7_forget_1 : decode cX7_forget 1 = .ok (.iconst 0, 1) := by decide +kernel
theorem dX7_forget_2 : decode cX7_forget 2 = .ok (.putfield 18, 3) := by decide +kernel
theorem dX7_forget_5 : decode cX7_forget 5 = .ok (.return_, 1) := by decide +kernel
theorem dX7_fitCount_0 : decode cX7_fitCount 0 = .ok (.aload_n 0, 1) := by decide +kernel
theorem dX7_fitCount_1 : decode cX7_fitCount 1 = .ok (.getfield 22, 3) := by decide +kernel
theorem dX7_fitCount_4 : decode cX7_fitCount 4 = .ok (.ireturn, 1) := by decide +kernel
theorem dX7_leastOf_0 : decode cX7_leastOf 0 = .ok (.aload_n 0, 1) := by decide +kernel
theorem dX7_leastOf_1 : decode cX7_leastOf 1 = .ok (.getfield 9, 3) := by decide +kernel
theorem dX7_leastOf_4 : decode cX7_leastOf 4 = .ok (.iload_n 1, 1) := by decide +kernel
theorem dX7_leastOf_5 : decode cX7_leastOf 5 = .ok (.iaload, 1) := by decide +kernel
theorem dX7_leastOf_6 : decode cX7_leastOf 6 = .ok (.ireturn, 1) := by decide +kernel
theorem dX7_greatestOf_0 : decode cX7_greatestOf 0 = .ok (.aload_n 0, 1) := by decide +kernel
theorem dX7_greatestOf_1 : decode cX7_greatestOf 1 = .ok (.getfield 15, 3) := by decide +kernel
theorem dX7_greatestOf_4 : decode cX7_greatestOf 4 = .ok (.iload_n 1, 1) := by decide +kernel
theorem dX7_greatestOf_5 : decode cX7_greatestOf 5 = .ok (.iaload, 1) := by decide +kernel
theorem dX7_greatestOf_6 : decode cX7_greatestOf 6 = .ok (.ireturn, 1) := by decide +kernel
set_option maxRecDepth 20000 in
theorem ggX7_find_X3_speed : GoodIn wsX7_find wsX3_speed := goodIn_r _ [12, 13, 61, 62, 63, 64, 65, 66, 67, 68, 69, 70, 71, 72, 73, 74, 75, 76, 77, 78, 79, 80, 81, 82, 83, 84, 85, 86, 87, 88, 89, 90, 91, 92, 93, 94, 95, 96, 97, 98, 99, 100, 101, 102, 103, 104, 105, 106, 107, 108] (by decide +kernel) (by decide +kernel)
set_option maxRecDepth 20000 in
theorem gX7_find_X3_speed_u32X1 : GoodIn wsX7_find (va_wsU RX7 32 RX1 "CreepBoard$Mark" ⟨"CreepBoard$Mark", "speed", "(I)I"⟩ yX3_speed wsX3_speed) := goodIn_app (goodIn_of _ (by decide +kernel)) ggX7_find_X3_speed
set_option maxRecDepth 20000 in
theorem gX7_find_X3_speed : GoodIn wsX7_find (wsV RX7 32 RX3 yX3_speed wsX3_speed) := goodIn_app (goodIn_of _ (by decide +kernel)) ggX7_find_X3_speed
set_option maxRecDepth 20000 in
theorem gX7_find_X3_speed_u32X4 : GoodIn wsX7_find (va_wsU RX7 32 RX4 "CreepBoard$Mark" ⟨"CreepBoard$Mark", "speed", "(I)I"⟩ yX3_speed wsX3_speed) := goodIn_app (goodIn_of _ (by decide +kernel)) ggX7_find_X3_speed
set_option maxRecDepth 20000 in
theorem gX7_find_X3_speed_u32X8 : GoodIn wsX7_find (va_wsU RX7 32 RX8 "CreepBoard$Mark" ⟨"CreepBoard$Mark", "speed", "(I)I"⟩ yX3_speed wsX3_speed) := goodIn_app (goodIn_of _ (by decide +kernel)) ggX7_find_X3_speed
set_option maxRecDepth 20000 in
theorem ggX7_find_X3_greenOf : GoodIn wsX7_find wsX3_greenOf := goodIn_r _ [22, 23, 61, 62, 63, 64, 65, 66, 67, 68, 69, 70, 71, 72, 73, 74, 75, 76, 77, 78, 79, 80, 81, 82, 83, 84, 85, 86, 87, 88, 89, 90, 91, 92, 93, 94, 95, 96, 97, 98, 99, 100, 101, 102, 103, 104, 105, 106, 107, 108] (by decide +kernel) (by decide +kernel)
set_option maxRecDepth 20000 in
theorem gX7_find_X3_greenOf_u38X1 : GoodIn wsX7_find (va_wsU RX7 38 RX1 "CreepBoard$Mark" ⟨"CreepBoard$Mark", "greenOf", "(I)I"⟩ yX3_greenOf wsX3_greenOf) := goodIn_app (goodIn_of _ (by decide +kernel)) ggX7_find_X3_greenOf
set_option maxRecDepth 20000 in
theorem gX7_find_X3_greenOf : GoodIn wsX7_find (wsV RX7 38 RX3 yX3_greenOf wsX3_greenOf) := goodIn_app (goodIn_of _ (by decide +kernel)) ggX7_find_X3_greenOf
set_option maxRecDepth 20000 in
theorem gX7_find_X3_greenOf_u38X4 : GoodIn wsX7_find (va_wsU RX7 38 RX4 "CreepBoard$Mark" ⟨"CreepBoard$Mark", "greenOf", "(I)I"⟩ yX3_greenOf wsX3_greenOf) := goodIn_app (goodIn_of _ (by decide +kernel)) ggX7_find_X3_greenOf
set_option maxRecDepth 20000 in
theorem gX7_find_X3_greenOf_u38X8 : GoodIn wsX7_find (va_wsU RX7 38 RX8 "CreepBoard$Mark" ⟨"CreepBoard$Mark", "greenOf", "(I)I"⟩ yX3_greenOf wsX3_greenOf) := goodIn_app (goodIn_of _ (by decide +kernel)) ggX7_find_X3_greenOf
set_option maxRecDepth 20000 in
theorem ggX7_find_X7_narrow : GoodIn wsX7_find wsX7_narrow := goodIn_r _ [32, 6, 33, 34, 35, 36, 5, 37, 38, 39, 40, 41, 42, 43, 44, 45, 46, 55, 56, 57, 58, 59, 60] (by decide +kernel) (by decide +kernel)
set_option maxRecDepth 20000 in
theorem gX7_find_X7_narrow : GoodIn wsX7_find (wsV RX7 41 RX7 yX7_narrow wsX7_narrow) := goodIn_app (goodIn_of _ (by decide +kernel)) ggX7_find_X7_narrow
set_option maxRecDepth 20000 in
theorem ggX7_find_X7_takeIn : GoodIn wsX7_find wsX7_takeIn := goodIn_r _ [50, 5, 6, 2, 51, 52, 53, 31, 54, 3, 40, 41, 35, 42, 4, 37, 38, 39, 55, 56, 57, 58, 59, 60] (by decide +kernel) (by decide +kernel)
set_option maxRecDepth 20000 in
theorem gX7_find_X7_takeIn : GoodIn wsX7_find (wsV RX7 45 RX7 yX7_takeIn wsX7_takeIn) := goodIn_app (goodIn_of _ (by decide +kernel)) ggX7_find_X7_takeIn
theorem dX7_find_0 : decode cX7_find 0 = .ok (.aload_n 0, 1) := by decide +kernel
theorem dX7_find_1 : decode cX7_find 1 = .ok (.getfield 18, 3) := by decide +kernel
theorem dX7_find_4 : decode cX7_find 4 = .ok (.ifCond .eq 4, 3) := by decide +kernel
theorem dX7_find_7 : decode cX7_find 7 = .ok (.return_, 1) := by decide +kernel
theorem dX7_find_8 : decode cX7_find 8 = .ok (.aload_n 0, 1) := by decide +kernel
theorem dX7_find_9 : decode cX7_find 9 = .ok (.iconst 0, 1) := by decide +kernel
theorem dX7_find_10 : decode cX7_find 10 = .ok (.putfield 22, 3) := by decide +kernel
theorem dX7_find_13 : decode cX7_find 13 = .ok (.iconst 0, 1) := by decide +kernel
theorem dX7_find_14 : decode cX7_find 14 = .ok (.istore 4, 2) := by decide +kernel
theorem dX7_find_16 : decode cX7_find 16 = .ok (.iload 4, 2) := by decide +kernel
theorem dX7_find_18 : decode cX7_find 18 = .ok (.iconst 3, 1) := by decide +kernel
theorem dX7_find_19 : decode cX7_find 19 = .ok (.if_icmp .ge 26, 3) := by decide +kernel
theorem dX7_find_22 : decode cX7_find 22 = .ok (.aload_n 0, 1) := by decide +kernel
theorem dX7_find_23 : decode cX7_find 23 = .ok (.getfield 9, 3) := by decide +kernel
theorem dX7_find_26 : decode cX7_find 26 = .ok (.iload 4, 2) := by decide +kernel
theorem dX7_find_28 : decode cX7_find 28 = .ok (.bipush 15, 2) := by decide +kernel
theorem dX7_find_30 : decode cX7_find 30 = .ok (.iastore, 1) := by decide +kernel
theorem dX7_find_31 : decode cX7_find 31 = .ok (.aload_n 0, 1) := by decide +kernel
theorem dX7_find_32 : decode cX7_find 32 = .ok (.getfield 15, 3) := by decide +kernel
theorem dX7_find_35 : decode cX7_find 35 = .ok (.iload 4, 2) := by decide +kernel
theorem dX7_find_37 : decode cX7_find 37 = .ok (.iconst 0, 1) := by decide +kernel
theorem dX7_find_38 : decode cX7_find 38 = .ok (.iastore, 1) := by decide +kernel
theorem dX7_find_39 : decode cX7_find 39 = .ok (.iinc 4 1, 3) := by decide +kernel
theorem dX7_find_42 : decode cX7_find 42 = .ok (.goto (-26), 3) := by decide +kernel
theorem dX7_find_45 : decode cX7_find 45 = .ok (.iconst 0, 1) := by decide +kernel
theorem dX7_find_46 : decode cX7_find 46 = .ok (.istore 4, 2) := by decide +kernel
theorem dX7_find_48 : decode cX7_find 48 = .ok (.iload 4, 2) := by decide +kernel
theorem dX7_find_50 : decode cX7_find 50 = .ok (.bipush 15, 2) := by decide +kernel
theorem dX7_find_52 : decode cX7_find 52 = .ok (.if_icmp .gt 125, 3) := by decide +kernel
theorem dX7_find_55 : decode cX7_find 55 = .ok (.iconst 0, 1) := by decide +kernel
theorem dX7_find_56 : decode cX7_find 56 = .ok (.istore 5, 2) := by decide +kernel
theorem dX7_find_58 : decode cX7_find 58 = .ok (.iload 5, 2) := by decide +kernel
theorem dX7_find_60 : decode cX7_find 60 = .ok (.bipush 15, 2) := by decide +kernel
theorem dX7_find_62 : decode cX7_find 62 = .ok (.if_icmp .gt 109, 3) := by decide +kernel
theorem dX7_find_65 : decode cX7_find 65 = .ok (.aload_n 0, 1) := by decide +kernel
theorem dX7_find_66 : decode cX7_find 66 = .ok (.iconst 0, 1) := by decide +kernel
theorem dX7_find_67 : decode cX7_find 67 = .ok (.putfield 26, 3) := by decide +kernel
theorem dX7_find_70 : decode cX7_find 70 = .ok (.aload_n 0, 1) := by decide +kernel
theorem dX7_find_71 : decode cX7_find 71 = .ok (.bipush 15, 2) := by decide +kernel
theorem dX7_find_73 : decode cX7_find 73 = .ok (.putfield 29, 3) := by decide +kernel
theorem dX7_find_76 : decode cX7_find 76 = .ok (.iconst 0, 1) := by decide +kernel
theorem dX7_find_77 : decode cX7_find 77 = .ok (.istore 6, 2) := by decide +kernel
theorem dX7_find_79 : decode cX7_find 79 = .ok (.iload 6, 2) := by decide +kernel
theorem dX7_find_81 : decode cX7_find 81 = .ok (.iload_n 2, 1) := by decide +kernel
theorem dX7_find_82 : decode cX7_find 82 = .ok (.if_icmp .ge 75, 3) := by decide +kernel
theorem dX7_find_85 : decode cX7_find 85 = .ok (.iload 6, 2) := by decide +kernel
theorem dX7_find_87 : decode cX7_find 87 = .ok (.bipush 10, 2) := by decide +kernel
theorem dX7_find_89 : decode cX7_find 89 = .ok (.if_icmp .ge 68, 3) := by decide +kernel
theorem dX7_find_92 : decode cX7_find 92 = .ok (.aload_n 0, 1) := by decide +kernel
theorem dX7_find_93 : decode cX7_find 93 = .ok (.getfield 26, 3) := by decide +kernel
theorem dX7_find_96 : decode cX7_find 96 = .ok (.aload_n 0, 1) := by decide +kernel
theorem dX7_find_97 : decode cX7_find 97 = .ok (.getfield 29, 3) := by decide +kernel
theorem dX7_find_100 : decode cX7_find 100 = .ok (.if_icmp .gt 57, 3) := by decide +kernel
theorem dX7_find_103 : decode cX7_find 103 = .ok (.aload_n 1, 1) := by decide +kernel
theorem dX7_find_104 : decode cX7_find 104 = .ok (.iload 6, 2) := by decide +kernel
theorem dX7_find_106 : decode cX7_find 106 = .ok (.aaload, 1) := by decide +kernel
theorem dX7_find_107 : decode cX7_find 107 = .ok (.astore 7, 2) := by decide +kernel
theorem dX7_find_109 : decode cX7_find 109 = .ok (.aload 7, 2) := by decide +kernel
theorem dX7_find_111 : decode cX7_find 111 = .ok (.ifnull 40, 3) := by decide +kernel
theorem dX7_find_114 : decode cX7_find 114 = .ok (.aload_n 0, 1) := by decide +kernel
theorem dX7_find_115 : decode cX7_find 115 = .ok (.aload 7, 2) := by decide +kernel
theorem dX7_find_117 : decode cX7_find 117 = .ok (.iconst 0, 1) := by decide +kernel
theorem dX7_find_118 : decode cX7_find 118 = .ok (.invokevirtual 32, 3) := by decide +kernel
theorem dX7_find_121 : decode cX7_find 121 = .ok (.aload 7, 2) := by decide +kernel
theorem dX7_find_123 : decode cX7_find 123 = .ok (.iconst 0, 1) := by decide +kernel
theorem dX7_find_124 : decode cX7_find 124 = .ok (.invokevirtual 38, 3) := by decide +kernel
theorem dX7_find_127 : decode cX7_find 127 = .ok (.iload 4, 2) := by decide +kernel
theorem dX7_find_129 : decode cX7_find 129 = .ok (.imul, 1) := by decide +kernel
theorem dX7_find_130 : decode cX7_find 130 = .ok (.isub, 1) := by decide +kernel
theorem dX7_find_131 : decode cX7_find 131 = .ok (.aload 7, 2) := by decide +kernel
theorem dX7_find_133 : decode cX7_find 133 = .ok (.iconst 1, 1) := by decide +kernel
theorem dX7_find_134 : decode cX7_find 134 = .ok (.invokevirtual 38, 3) := by decide +kernel
theorem dX7_find_137 : decode cX7_find 137 = .ok (.iload 5, 2) := by decide +kernel
theorem dX7_find_139 : decode cX7_find 139 = .ok (.imul, 1) := by decide +kernel
theorem dX7_find_140 : decode cX7_find 140 = .ok (.isub, 1) := by decide +kernel
theorem dX7_find_141 : decode cX7_find 141 = .ok (.aload 7, 2) := by decide +kernel
theorem dX7_find_143 : decode cX7_find 143 = .ok (.iconst 2, 1) := by decide +kernel
theorem dX7_find_144 : decode cX7_find 144 = .ok (.invokevirtual 38, 3) := by decide +kernel
theorem dX7_find_147 : decode cX7_find 147 = .ok (.iload_n 3, 1) := by decide +kernel
theorem dX7_find_148 : decode cX7_find 148 = .ok (.invokevirtual 41, 3) := by decide +kernel
theorem dX7_find_151 : decode cX7_find 151 = .ok (.iinc 6 1, 3) := by decide +kernel
theorem dX7_find_154 : decode cX7_find 154 = .ok (.goto (-75), 3) := by decide +kernel
theorem dX7_find_157 : decode cX7_find 157 = .ok (.aload_n 0, 1) := by decide +kernel
theorem dX7_find_158 : decode cX7_find 158 = .ok (.iload 4, 2) := by decide +kernel
theorem dX7_find_160 : decode cX7_find 160 = .ok (.iload 5, 2) := by decide +kernel
theorem dX7_find_162 : decode cX7_find 162 = .ok (.invokevirtual 45, 3) := by decide +kernel
theorem dX7_find_165 : decode cX7_find 165 = .ok (.iinc 5 1, 3) := by decide +kernel
theorem dX7_find_168 : decode cX7_find 168 = .ok (.goto (-110), 3) := by decide +kernel
theorem dX7_find_171 : decode cX7_find 171 = .ok (.iinc 4 1, 3) := by decide +kernel
theorem dX7_find_174 : decode cX7_find 174 = .ok (.goto (-126), 3) := by decide +kernel
theorem dX7_find_177 : decode cX7_find 177 = .ok (.aload_n 0, 1) := by decide +kernel
theorem dX7_find_178 : decode cX7_find 178 = .ok (.iconst 1, 1) := by decide +kernel
theorem dX7_find_179 : decode cX7_find 179 = .ok (.putfield 18, 3) := by decide +kernel
theorem dX7_find_182 : decode cX7_find 182 = .ok (.return_, 1) := by decide +kernel
set_option maxRecDepth 20000 in
theorem ggX7_narrow_J9_floorDiv_7cf53 : GoodIn wsX7_narrow wsJ9_floorDiv_7cf53 := goodIn_r _ [16] (by decide +kernel) (by decide +kernel)
set_option maxRecDepth 20000 in
theorem gX7_narrow_J9_floorDiv_7cf53 : GoodIn wsX7_narrow (va_wsS RX7 54 yJ9_floorDiv_7cf53 wsJ9_floorDiv_7cf53) := goodIn_app (goodIn_of _ (by decide +kernel)) ggX7_narrow_J9_floorDiv_7cf53
theorem dX7_narrow_0 : decode cX7_narrow 0 = .ok (.iload_n 2, 1) := by decide +kernel
theorem dX7_narrow_1 : decode cX7_narrow 1 = .ok (.ifCond .ne 20, 3) := by decide +kernel
theorem dX7_narrow_4 : decode cX7_narrow 4 = .ok (.iload_n 1, 1) := by decide +kernel
theorem dX7_narrow_5 : decode cX7_narrow 5 = .ok (.iload_n 3, 1) := by decide +kernel
theorem dX7_narrow_6 : decode cX7_narrow 6 = .ok (.if_icmp .gt 9, 3) := by decide +kernel
theorem dX7_narrow_9 : decode cX7_narrow 9 = .ok (.iload_n 1, 1) := by decide +kernel
theorem dX7_narrow_10 : decode cX7_narrow 10 = .ok (.iload_n 3, 1) := by decide +kernel
theorem dX7_narrow_11 : decode cX7_narrow 11 = .ok (.ineg, 1) := by decide +kernel
theorem dX7_narrow_12 : decode cX7_narrow 12 = .ok (.if_icmp .ge 8, 3) := by decide +kernel
theorem dX7_narrow_15 : decode cX7_narrow 15 = .ok (.aload_n 0, 1) := by decide +kernel
theorem dX7_narrow_16 : decode cX7_narrow 16 = .ok (.iconst (-1), 1) := by decide +kernel
theorem dX7_narrow_17 : decode cX7_narrow 17 = .ok (.putfield 29, 3) := by decide +kernel
theorem dX7_narrow_20 : decode cX7_narrow 20 = .ok (.return_, 1) := by decide +kernel
theorem dX7_narrow_21 : decode cX7_narrow 21 = .ok (.iload_n 2, 1) := by decide +kernel
theorem dX7_narrow_22 : decode cX7_narrow 22 = .ok (.invokestatic 49, 3) := by decide +kernel
theorem dX7_narrow_25 : decode cX7_narrow 25 = .ok (.istore 4, 2) := by decide +kernel
theorem dX7_narrow_27 : decode cX7_narrow 27 = .ok (.iload_n 2, 1) := by decide +kernel
theorem dX7_narrow_28 : decode cX7_narrow 28 = .ok (.ifCond .ge 8, 3) := by decide +kernel
theorem dX7_narrow_31 : decode cX7_narrow 31 = .ok (.iload_n 1, 1) := by decide +kernel
theorem dX7_narrow_32 : decode cX7_narrow 32 = .ok (.ineg, 1) := by decide +kernel
theorem dX7_narrow_33 : decode cX7_narrow 33 = .ok (.goto 4, 3) := by decide +kernel
theorem dX7_narrow_36 : decode cX7_narrow 36 = .ok (.iload_n 1, 1) := by decide +kernel
theorem dX7_narrow_37 : decode cX7_narrow 37 = .ok (.istore 5, 2) := by decide +kernel
theorem dX7_narrow_39 : decode cX7_narrow 39 = .ok (.aload_n 0, 1) := by decide +kernel
theorem dX7_narrow_40 : decode cX7_narrow 40 = .ok (.aload_n 0, 1) := by decide +kernel
theorem dX7_narrow_41 : decode cX7_narrow 41 = .ok (.getfield 26, 3) := by decide +kernel
theorem dX7_narrow_44 : decode cX7_narrow 44 = .ok (.iload_n 3, 1) := by decide +kernel
theorem dX7_narrow_45 : decode cX7_narrow 45 = .ok (.iload 5, 2) := by decide +kernel
theorem dX7_narrow_47 : decode cX7_narrow 47 = .ok (.isub, 1) := by decide +kernel
theorem dX7_narrow_48 : decode cX7_narrow 48 = .ok (.iload 4, 2) := by decide +kernel
theorem dX7_narrow_50 : decode cX7_narrow 50 = .ok (.invokestatic 54, 3) := by decide +kernel
theorem dX7_narrow_53 : decode cX7_narrow 53 = .ok (.ineg, 1) := by decide +kernel
theorem dX7_narrow_54 : decode cX7_narrow 54 = .ok (.invokestatic 58, 3) := by decide +kernel
theorem dX7_narrow_57 : decode cX7_narrow 57 = .ok (.putfield 26, 3) := by decide +kernel
theorem dX7_narrow_60 : decode cX7_narrow 60 = .ok (.aload_n 0, 1) := by decide +kernel
theorem dX7_narrow_61 : decode cX7_narrow 61 = .ok (.aload_n 0, 1) := by decide +kernel
theorem dX7_narrow_62 : decode cX7_narrow 62 = .ok (.getfield 29, 3) := by decide +kernel
theorem dX7_narrow_65 : decode cX7_narrow 65 = .ok (.iload_n 3, 1) := by decide +kernel
theorem dX7_narrow_66 : decode cX7_narrow 66 = .ok (.iload 5, 2) := by decide +kernel
theorem dX7_narrow_68 : decode cX7_narrow 68 = .ok (.iadd, 1) := by decide +kernel
theorem dX7_narrow_69 : decode cX7_narrow 69 = .ok (.iload 4, 2) := by decide +kernel
theorem dX7_narrow_71 : decode cX7_narrow 71 = .ok (.invokestatic 54, 3) := by decide +kernel
theorem dX7_narrow_74 : decode cX7_narrow 74 = .ok (.invokestatic 61, 3) := by decide +kernel
theorem dX7_narrow_77 : decode cX7_narrow 77 = .ok (.putfield 29, 3) := by decide +kernel
theorem dX7_narrow_80 : decode cX7_narrow 80 = .ok (.return_, 1) := by decide +kernel
set_option maxRecDepth 20000 in
theorem ggX7_takeIn_X7_widen : GoodIn wsX7_takeIn wsX7_widen := goodIn_r _ [8, 9, 10, 11, 12, 13, 14, 15, 16, 17, 18, 19, 20, 21, 22, 23] (by decide +kernel) (by decide +kernel)
set_option maxRecDepth 20000 in
theorem gX7_takeIn_X7_widen : GoodIn wsX7_takeIn (wsV RX7 64 RX7 yX7_widen wsX7_widen) := goodIn_app (goodIn_of _ (by decide +kernel)) ggX7_takeIn_X7_widen
theorem dX7_takeIn_0 : decode cX7_takeIn 0 = .ok (.aload_n 0, 1) := by decide +kernel
theorem dX7_takeIn_1 : decode cX7_takeIn 1 = .ok (.getfield 26, 3) := by decide +kernel
theorem dX7_takeIn_4 : decode cX7_takeIn 4 = .ok (.aload_n 0, 1) := by decide +kernel
theorem dX7_takeIn_5 : decode cX7_takeIn 5 = .ok (.getfield 29, 3) := by decide +kernel
theorem dX7_takeIn_8 : decode cX7_takeIn 8 = .ok (.if_icmp .le 4, 3) := by decide +kernel
theorem dX7_takeIn_11 : decode cX7_takeIn 11 = .ok (.return_, 1) := by decide +kernel
theorem dX7_takeIn_12 : decode cX7_takeIn 12 = .ok (.aload_n 0, 1) := by decide +kernel
theorem dX7_takeIn_13 : decode cX7_takeIn 13 = .ok (.dup, 1) := by decide +kernel
theorem dX7_takeIn_14 : decode cX7_takeIn 14 = .ok (.getfield 22, 3) := by decide +kernel
theorem dX7_takeIn_17 : decode cX7_takeIn 17 = .ok (.aload_n 0, 1) := by decide +kernel
theorem dX7_takeIn_18 : decode cX7_takeIn 18 = .ok (.getfield 29, 3) := by decide +kernel
theorem dX7_takeIn_21 : decode cX7_takeIn 21 = .ok (.aload_n 0, 1) := by decide +kernel
theorem dX7_takeIn_22 : decode cX7_takeIn 22 = .ok (.getfield 26, 3) := by decide +kernel
theorem dX7_takeIn_25 : decode cX7_takeIn 25 = .ok (.isub, 1) := by decide +kernel
theorem dX7_takeIn_26 : decode cX7_takeIn 26 = .ok (.iconst 1, 1) := by decide +kernel
theorem dX7_takeIn_27 : decode cX7_takeIn 27 = .ok (.iadd, 1) := by decide +kernel
theorem dX7_takeIn_28 : decode cX7_takeIn 28 = .ok (.iadd, 1) := by decide +kernel
theorem dX7_takeIn_29 : decode cX7_takeIn 29 = .ok (.putfield 22, 3) := by decide +kernel
theorem dX7_takeIn_32 : decode cX7_takeIn 32 = .ok (.aload_n 0, 1) := by decide +kernel
theorem dX7_takeIn_33 : decode cX7_takeIn 33 = .ok (.iconst 0, 1) := by decide +kernel
theorem dX7_takeIn_34 : decode cX7_takeIn 34 = .ok (.iload_n 1, 1) := by decide +kernel
theorem dX7_takeIn_35 : decode cX7_takeIn 35 = .ok (.iload_n 1, 1) := by decide +kernel
theorem dX7_takeIn_36 : decode cX7_takeIn 36 = .ok (.invokevirtual 64, 3) := by decide +kernel
theorem dX7_takeIn_39 : decode cX7_takeIn 39 = .ok (.aload_n 0, 1) := by decide +kernel
theorem dX7_takeIn_40 : decode cX7_takeIn 40 = .ok (.iconst 1, 1) := by decide +kernel
theorem dX7_takeIn_41 : decode cX7_takeIn 41 = .ok (.iload_n 2, 1) := by decide +kernel
theorem dX7_takeIn_42 : decode cX7_takeIn 42 = .ok (.iload_n 2, 1) := by decide +kernel
theorem dX7_takeIn_43 : decode cX7_takeIn 43 = .ok (.invokevirtual 64, 3) := by decide +kernel
theorem dX7_takeIn_46 : decode cX7_takeIn 46 = .ok (.aload_n 0, 1) := by decide +kernel
theorem dX7_takeIn_47 : decode cX7_takeIn 47 = .ok (.iconst 2, 1) := by decide +kernel
theorem dX7_takeIn_48 : decode cX7_takeIn 48 = .ok (.aload_n 0, 1) := by decide +kernel
theorem dX7_takeIn_49 : decode cX7_takeIn 49 = .ok (.getfield 26, 3) := by decide +kernel
theorem dX7_takeIn_52 : decode cX7_takeIn 52 = .ok (.aload_n 0, 1) := by decide +kernel
theorem dX7_takeIn_53 : decode cX7_takeIn 53 = .ok (.getfield 29, 3) := by decide +kernel
theorem dX7_takeIn_56 : decode cX7_takeIn 56 = .ok (.invokevirtual 64, 3) := by decide +kernel
theorem dX7_takeIn_59 : decode cX7_takeIn 59 = .ok (.return_, 1) := by decide +kernel
theorem dX7_widen_0 : decode cX7_widen 0 = .ok (.aload_n 0, 1) := by decide +kernel
theorem dX7_widen_1 : decode cX7_widen 1 = .ok (.getfield 9, 3) := by decide +kernel
theorem dX7_widen_4 : decode cX7_widen 4 = .ok (.iload_n 1, 1) := by decide +kernel
theorem dX7_widen_5 : decode cX7_widen 5 = .ok (.aload_n 0, 1) := by decide +kernel
theorem dX7_widen_6 : decode cX7_widen 6 = .ok (.getfield 9, 3) := by decide +kernel
theorem dX7_widen_9 : decode cX7_widen 9 = .ok (.iload_n 1, 1) := by decide +kernel
theorem dX7_widen_10 : decode cX7_widen 10 = .ok (.iaload, 1) := by decide +kernel
theorem dX7_widen_11 : decode cX7_widen 11 = .ok (.iload_n 2, 1) := by decide +kernel
theorem dX7_widen_12 : decode cX7_widen 12 = .ok (.invokestatic 61, 3) := by decide +kernel
theorem dX7_widen_15 : decode cX7_widen 15 = .ok (.iastore, 1) := by decide +kernel
theorem dX7_widen_16 : decode cX7_widen 16 = .ok (.aload_n 0, 1) := by decide +kernel
theorem dX7_widen_17 : decode cX7_widen 17 = .ok (.getfield 15, 3) := by decide +kernel
theorem dX7_widen_20 : decode cX7_widen 20 = .ok (.iload_n 1, 1) := by decide +kernel
theorem dX7_widen_21 : decode cX7_widen 21 = .ok (.aload_n 0, 1) := by decide +kernel
theorem dX7_widen_22 : decode cX7_widen 22 = .ok (.getfield 15, 3) := by decide +kernel
theorem dX7_widen_25 : decode cX7_widen 25 = .ok (.iload_n 1, 1) := by decide +kernel
theorem dX7_widen_26 : decode cX7_widen 26 = .ok (.iaload, 1) := by decide +kernel
theorem dX7_widen_27 : decode cX7_widen 27 = .ok (.iload_n 3, 1) := by decide +kernel
theorem dX7_widen_28 : decode cX7_widen 28 = .ok (.invokestatic 58, 3) := by decide +kernel
theorem dX7_widen_31 : decode cX7_widen 31 = .ok (.iastore, 1) := by decide +kernel
theorem dX7_widen_32 : decode cX7_widen 32 = .ok (.return_, 1) := by decide +kernel
set_option maxRecDepth 20000 in
theorem ggX8_init_X4_init : GoodIn wsX8_init wsX4_init := goodIn_r _ [4, 5, 6, 7, 8, 9, 10, 11, 12, 13, 14, 15, 16, 17, 18, 19, 20, 21, 22, 23, 24, 25, 26, 27, 28, 29, 30, 31, 32, 33, 34, 35, 36, 37, 38, 39, 40, 41, 42, 43, 44, 45, 46, 47, 48, 49, 50, 51, 52, 53, 54, 55, 56, 57, 58, 59, 60, 61, 62, 63, 64, 65, 66, 67, 68, 69, 70, 71] (by decide +kernel) (by decide +kernel)
set_option maxRecDepth 20000 in
theorem gX8_init_X4_init : GoodIn wsX8_init (wsX4_init) := ggX8_init_X4_init
theorem dX8_init_0 : decode cX8_init 0 = .ok (.aload_n 0, 1) := by decide +kernel
theorem dX8_init_1 : decode cX8_init 1 = .ok (.iload_n 1, 1) := by decide +kernel
theorem dX8_init_2 : decode cX8_init 2 = .ok (.iload_n 2, 1) := by decide +kernel
theorem dX8_init_3 : decode cX8_init 3 = .ok (.iload_n 3, 1) := by decide +kernel
theorem dX8_init_4 : decode cX8_init 4 = .ok (.invokespecial 3, 3) := by decide +kernel
theorem dX8_init_7 : decode cX8_init 7 = .ok (.return_, 1) := by decide +kernel
set_option maxRecDepth 20000 in
theorem ggX8_clearFrom_X3_hasReading : GoodIn wsX8_clearFrom wsX3_hasReading := goodIn_r _ [6, 7, 8, 9, 10, 11, 12, 13, 14, 15, 16, 17, 18, 19, 20, 21, 22, 23, 24, 25, 26, 27, 28, 29, 30, 31, 32, 33, 34, 35, 36, 37, 38, 39, 40, 41, 42, 43, 44, 45, 46, 47, 48, 49, 50, 51, 52, 53, 54, 55] (by decide +kernel) (by decide +kernel)
set_option maxRecDepth 20000 in
theorem gX8_clearFrom_X3_hasReading_u9X8 : GoodIn wsX8_clearFrom (va_wsU RX8 9 RX8 "CreepBoard$Mark" ⟨"CreepBoard$Standing", "hasReading", "(I)Z"⟩ yX3_hasReading wsX3_hasReading) := goodIn_app (goodIn_of _ (by decide +kernel)) ggX8_clearFrom_X3_hasReading
theorem dX8_clearFrom_0 : decode cX8_clearFrom 0 = .ok (.iconst 0, 1) := by decide +kernel
theorem dX8_clearFrom_1 : decode cX8_clearFrom 1 = .ok (.istore_n 1, 1) := by decide +kernel
theorem dX8_clearFrom_2 : decode cX8_clearFrom 2 = .ok (.iconst 0, 1) := by decide +kernel
theorem dX8_clearFrom_3 : decode cX8_clearFrom 3 = .ok (.istore_n 2, 1) := by decide +kernel
theorem dX8_clearFrom_4 : decode cX8_clearFrom 4 = .ok (.iload_n 2, 1) := by decide +kernel
theorem dX8_clearFrom_5 : decode cX8_clearFrom 5 = .ok (.bipush 40, 2) := by decide +kernel
theorem dX8_clearFrom_7 : decode cX8_clearFrom 7 = .ok (.if_icmp .ge 29, 3) := by decide +kernel
theorem dX8_clearFrom_10 : decode cX8_clearFrom 10 = .ok (.aload_n 0, 1) := by decide +kernel
theorem dX8_clearFrom_11 : decode cX8_clearFrom 11 = .ok (.iload_n 2, 1) := by decide +kernel
theorem dX8_clearFrom_12 : decode cX8_clearFrom 12 = .ok (.invokevirtual 9, 3) := by decide +kernel
theorem dX8_clearFrom_15 : decode cX8_clearFrom 15 = .ok (.ifCond .eq 15, 3) := by decide +kernel
theorem dX8_clearFrom_18 : decode cX8_clearFrom 18 = .ok (.iinc 1 1, 3) := by decide +kernel
theorem dX8_clearFrom_21 : decode cX8_clearFrom 21 = .ok (.iload_n 1, 1) := by decide +kernel
theorem dX8_clearFrom_22 : decode cX8_clearFrom 22 = .ok (.iconst 2, 1) := by decide +kernel
theorem dX8_clearFrom_23 : decode cX8_clearFrom 23 = .ok (.if_icmp .ne 7, 3) := by decide +kernel
theorem dX8_clearFrom_26 : decode cX8_clearFrom 26 = .ok (.iload_n 2, 1) := by decide +kernel
theorem dX8_clearFrom_27 : decode cX8_clearFrom 27 = .ok (.iconst 1, 1) := by decide +kernel
theorem dX8_clearFrom_28 : decode cX8_clearFrom 28 = .ok (.iadd, 1) := by decide +kernel
theorem dX8_clearFrom_29 : decode cX8_clearFrom 29 = .ok (.ireturn, 1) := by decide +kernel
theorem dX8_clearFrom_30 : decode cX8_clearFrom 30 = .ok (.iinc 2 1, 3) := by decide +kernel
theorem dX8_clearFrom_33 : decode cX8_clearFrom 33 = .ok (.goto (-29), 3) := by decide +kernel
theorem dX8_clearFrom_36 : decode cX8_clearFrom 36 = .ok (.bipush 40, 2) := by decide +kernel
theorem dX8_clearFrom_38 : decode cX8_clearFrom 38 = .ok (.ireturn, 1) := by decide +kernel
set_option maxRecDepth 20000 in
theorem ggX8_heft_X4_heft : GoodIn wsX8_heft wsX4_heft := goodIn_r _ [6, 7, 8, 9, 10, 11, 12, 13, 14, 15, 16, 17, 18, 19, 20, 21, 22, 23, 24, 25, 26, 27, 28, 29, 30, 31, 32, 33, 34, 35, 36, 37, 38, 39, 40, 41, 42, 43, 44, 45, 46, 47, 48, 49, 50, 51, 52, 53, 54, 55, 56, 57, 58, 59, 60, 61, 62] (by decide +kernel) (by decide +kernel)
set_option maxRecDepth 20000 in
theorem gX8_heft_X4_heft_s15 : GoodIn wsX8_heft (va_wsSU RX8 15 yX4_heft wsX4_heft) := goodIn_app (goodIn_of _ (by decide +kernel)) ggX8_heft_X4_heft
theorem dX8_heft_0 : decode cX8_heft 0 = .ok (.iconst 2, 1) := by decide +kernel
theorem dX8_heft_1 : decode cX8_heft 1 = .ok (.aload_n 0, 1) := by decide +kernel
theorem dX8_heft_2 : decode cX8_heft 2 = .ok (.invokespecial 15, 3) := by decide +kernel
theorem dX8_heft_5 : decode cX8_heft 5 = .ok (.imul, 1) := by decide +kernel
theorem dX8_heft_6 : decode cX8_heft 6 = .ok (.ireturn, 1) := by decide +kernel
set_option maxRecDepth 20000 in
theorem ggX9_init_X5_init : GoodIn wsX9_init wsX5_init := goodIn_r _ [27, 28, 2, 3, 29, 30, 31, 32, 70, 71, 72] (by decide +kernel) (by decide +kernel)
set_option maxRecDepth 20000 in
theorem gX9_init_X5_init_n17 : GoodIn wsX9_init (wsX5_init) := ggX9_init_X5_init
set_option maxRecDepth 20000 in
theorem ggX9_init_X0_init : GoodIn wsX9_init wsX0_init := goodIn_r _ [34, 35, 2, 3, 36, 37, 29, 38, 39, 40, 73, 74, 75, 76, 77, 78] (by decide +kernel) (by decide +kernel)
set_option maxRecDepth 20000 in
theorem gX9_init_X0_init_n24 : GoodIn wsX9_init (wsX0_init) := ggX9_init_X0_init
set_option maxRecDepth 20000 in
theorem ggX9_init_X7_init : GoodIn wsX9_init wsX7_init := goodIn_r _ [42, 43, 2, 3, 29, 44, 45, 79, 80, 81, 82, 83, 84] (by decide +kernel) (by decide +kernel)
set_option maxRecDepth 20000 in
theorem gX9_init_X7_init_n31 : GoodIn wsX9_init (wsX7_init) := ggX9_init_X7_init
set_option maxRecDepth 20000 in
theorem ggX9_init_X2_init : GoodIn wsX9_init wsX2_init := goodIn_r _ [47, 48, 2, 3, 29, 49, 50, 51, 52, 53, 54, 55, 56, 85, 86, 87, 88, 89, 90, 91, 92, 93, 94, 95] (by decide +kernel) (by decide +kernel)
set_option maxRecDepth 20000 in
theorem gX9_init_X2_init_n38 : GoodIn wsX9_init (wsX2_init) := ggX9_init_X2_init
set_option maxRecDepth 20000 in
theorem ggX9_init_X6_init : GoodIn wsX9_init wsX6_init := goodIn_r _ [58, 59, 2, 3, 31, 60, 61, 96, 97, 98, 99] (by decide +kernel) (by decide +kernel)
set_option maxRecDepth 20000 in
theorem gX9_init_X6_init_n49 : GoodIn wsX9_init (wsX6_init) := ggX9_init_X6_init
theorem dX9_init_0 : decode cX9_init 0 = .ok (.aload_n 0, 1) := by decide +kernel
theorem dX9_init_1 : decode cX9_init 1 = .ok (.invokespecial 1, 3) := by decide +kernel
theorem dX9_init_4 : decode cX9_init 4 = .ok (.aload_n 0, 1) := by decide +kernel
theorem dX9_init_5 : decode cX9_init 5 = .ok (.bipush 10, 2) := by decide +kernel
theorem dX9_init_7 : decode cX9_init 7 = .ok (.anewarray 9, 3) := by decide +kernel
theorem dX9_init_10 : decode cX9_init 10 = .ok (.putfield 11, 3) := by decide +kernel
theorem dX9_init_13 : decode cX9_init 13 = .ok (.aload_n 0, 1) := by decide +kernel
theorem dX9_init_14 : decode cX9_init 14 = .ok (.new 15, 3) := by decide +kernel
theorem dX9_init_17 : decode cX9_init 17 = .ok (.dup, 1) := by decide +kernel
theorem dX9_init_18 : decode cX9_init 18 = .ok (.invokespecial 17, 3) := by decide +kernel
theorem dX9_init_21 : decode cX9_init 21 = .ok (.putfield 18, 3) := by decide +kernel
theorem dX9_init_24 : decode cX9_init 24 = .ok (.aload_n 0, 1) := by decide +kernel
theorem dX9_init_25 : decode cX9_init 25 = .ok (.new 22, 3) := by decide +kernel
theorem dX9_init_28 : decode cX9_init 28 = .ok (.dup, 1) := by decide +kernel
theorem dX9_init_29 : decode cX9_init 29 = .ok (.invokespecial 24, 3) := by decide +kernel
theorem dX9_init_32 : decode cX9_init 32 = .ok (.putfield 25, 3) := by decide +kernel
theorem dX9_init_35 : decode cX9_init 35 = .ok (.aload_n 0, 1) := by decide +kernel
theorem dX9_init_36 : decode cX9_init 36 = .ok (.new 29, 3) := by decide +kernel
theorem dX9_init_39 : decode cX9_init 39 = .ok (.dup, 1) := by decide +kernel
theorem dX9_init_40 : decode cX9_init 40 = .ok (.invokespecial 31, 3) := by decide +kernel
theorem dX9_init_43 : decode cX9_init 43 = .ok (.putfield 32, 3) := by decide +kernel
theorem dX9_init_46 : decode cX9_init 46 = .ok (.aload_n 0, 1) := by decide +kernel
theorem dX9_init_47 : decode cX9_init 47 = .ok (.new 36, 3) := by decide +kernel
theorem dX9_init_50 : decode cX9_init 50 = .ok (.dup, 1) := by decide +kernel
theorem dX9_init_51 : decode cX9_init 51 = .ok (.invokespecial 38, 3) := by decide +kernel
theorem dX9_init_54 : decode cX9_init 54 = .ok (.putfield 39, 3) := by decide +kernel
theorem dX9_init_57 : decode cX9_init 57 = .ok (.aload_n 0, 1) := by decide +kernel
theorem dX9_init_58 : decode cX9_init 58 = .ok (.bipush 8, 2) := by decide +kernel
theorem dX9_init_60 : decode cX9_init 60 = .ok (.anewarray 43, 3) := by decide +kernel
theorem dX9_init_63 : decode cX9_init 63 = .ok (.putfield 45, 3) := by decide +kernel
theorem dX9_init_66 : decode cX9_init 66 = .ok (.iconst 0, 1) := by decide +kernel
theorem dX9_init_67 : decode cX9_init 67 = .ok (.istore_n 1, 1) := by decide +kernel
theorem dX9_init_68 : decode cX9_init 68 = .ok (.iload_n 1, 1) := by decide +kernel
theorem dX9_init_69 : decode cX9_init 69 = .ok (.bipush 8, 2) := by decide +kernel
theorem dX9_init_71 : decode cX9_init 71 = .ok (.if_icmp .ge 22, 3) := by decide +kernel
theorem dX9_init_74 : decode cX9_init 74 = .ok (.aload_n 0, 1) := by decide +kernel
theorem dX9_init_75 : decode cX9_init 75 = .ok (.getfield 45, 3) := by decide +kernel
theorem dX9_init_78 : decode cX9_init 78 = .ok (.iload_n 1, 1) := by decide +kernel
theorem dX9_init_79 : decode cX9_init 79 = .ok (.new 43, 3) := by decide +kernel
theorem dX9_init_82 : decode cX9_init 82 = .ok (.dup, 1) := by decide +kernel
theorem dX9_init_83 : decode cX9_init 83 = .ok (.invokespecial 49, 3) := by decide +kernel
theorem dX9_init_86 : decode cX9_init 86 = .ok (.aastore, 1) := by decide +kernel
theorem dX9_init_87 : decode cX9_init 87 = .ok (.iinc 1 1, 3) := by decide +kernel
theorem dX9_init_90 : decode cX9_init 90 = .ok (.goto (-22), 3) := by decide +kernel
theorem dX9_init_93 : decode cX9_init 93 = .ok (.return_, 1) := by decide +kernel
set_option maxRecDepth 20000 in
theorem ggX9_mark_X9_within : GoodIn wsX9_mark wsX9_within := goodIn_r _ [6] (by decide +kernel) (by decide +kernel)
set_option maxRecDepth 20000 in
theorem gX9_mark_X9_within : GoodIn wsX9_mark (va_wsS RX9 50 yX9_within wsX9_within) := goodIn_app (goodIn_of _ (by decide +kernel)) ggX9_mark_X9_within
set_option maxRecDepth 20000 in
theorem ggX9_mark_X9_markOfKind : GoodIn wsX9_mark wsX9_markOfKind := goodIn_r _ [9, 10, 11, 12, 13, 14, 15, 16, 17, 18, 19, 20, 21, 22, 23, 24, 25, 26, 27, 28, 29, 30, 31, 32, 33, 34, 35, 36, 37, 38, 39, 40, 41, 42, 43, 44, 45, 46, 47, 48, 49, 50, 51, 78, 79, 80, 81, 82, 83, 84, 85, 86, 87, 88, 89, 90, 91, 92, 93, 94, 95, 96, 97, 98, 99, 100, 101, 102, 103, 104, 105, 106, 107, 108, 109, 110, 111, 112, 113, 114, 115, 116, 117, 118, 119, 120, 121, 122, 123, 124, 125] (by decide +kernel) (by decide +kernel)
set_option maxRecDepth 20000 in
theorem gX9_mark_X9_markOfKind : GoodIn wsX9_mark (va_wsS RX9 58 yX9_markOfKind wsX9_markOfKind) := goodIn_app (goodIn_of _ (by decide +kernel)) ggX9_mark_X9_markOfKind
set_option maxRecDepth 20000 in
theorem ggX9_mark_X9_forgetMotion : GoodIn wsX9_mark wsX9_forgetMotion := goodIn_r _ [55, 56, 57, 58, 59, 60, 61, 62, 63, 64, 65, 66, 67, 68, 69, 70, 71, 72, 73, 74, 75, 76, 77, 126, 127, 128, 129, 130, 131, 132, 133, 134, 135, 136, 137] (by decide +kernel) (by decide +kernel)
set_option maxRecDepth 20000 in
theorem gX9_mark_X9_forgetMotion : GoodIn wsX9_mark (wsV RX9 62 RX9 yX9_forgetMotion wsX9_forgetMotion) := goodIn_app (goodIn_of _ (by decide +kernel)) ggX9_mark_X9_forgetMotion
theorem dX9_mark_0 : decode cX9_mark 0 = .ok (.iload_n 1, 1) := by decide +kernel
theorem dX9_mark_1 : decode cX9_mark 1 = .ok (.ifCond .lt 28, 3) := by decide +kernel
theorem dX9_mark_4 : decode cX9_mark 4 = .ok (.iload_n 1, 1) := by decide +kernel
theorem dX9_mark_5 : decode cX9_mark 5 = .ok (.iconst 3, 1) := by decide +kernel
theorem dX9_mark_6 : decode cX9_mark 6 = .ok (.if_icmp .gt 23, 3) := by decide +kernel
theorem dX9_mark_9 : decode cX9_mark 9 = .ok (.iload_n 2, 1) := by decide +kernel
theorem dX9_mark_10 : decode cX9_mark 10 = .ok (.sipush 1000, 3) := by decide +kernel
theorem dX9_mark_13 : decode cX9_mark 13 = .ok (.invokestatic 50, 3) := by decide +kernel
theorem dX9_mark_16 : decode cX9_mark 16 = .ok (.ifCond .eq 13, 3) := by decide +kernel
theorem dX9_mark_19 : decode cX9_mark 19 = .ok (.iload_n 3, 1) := by decide +kernel
theorem dX9_mark_20 : decode cX9_mark 20 = .ok (.sipush 1000, 3) := by decide +kernel
theorem dX9_mark_23 : decode cX9_mark 23 = .ok (.invokestatic 50, 3) := by decide +kernel
theorem dX9_mark_26 : decode cX9_mark 26 = .ok (.ifCond .ne 5, 3) := by decide +kernel
theorem dX9_mark_29 : decode cX9_mark 29 = .ok (.iconst (-1), 1) := by decide +kernel
theorem dX9_mark_30 : decode cX9_mark 30 = .ok (.ireturn, 1) := by decide +kernel
theorem dX9_mark_31 : decode cX9_mark 31 = .ok (.aload_n 0, 1) := by decide +kernel
theorem dX9_mark_32 : decode cX9_mark 32 = .ok (.getfield 54, 3) := by decide +kernel
theorem dX9_mark_35 : decode cX9_mark 35 = .ok (.bipush 10, 2) := by decide +kernel
theorem dX9_mark_37 : decode cX9_mark 37 = .ok (.if_icmp .lt 6, 3) := by decide +kernel
theorem dX9_mark_40 : decode cX9_mark 40 = .ok (.bipush (-2), 2) := by decide +kernel
theorem dX9_mark_42 : decode cX9_mark 42 = .ok (.ireturn, 1) := by decide +kernel
theorem dX9_mark_43 : decode cX9_mark 43 = .ok (.aload_n 0, 1) := by decide +kernel
theorem dX9_mark_44 : decode cX9_mark 44 = .ok (.getfield 11, 3) := by decide +kernel
theorem dX9_mark_47 : decode cX9_mark 47 = .ok (.aload_n 0, 1) := by decide +kernel
theorem dX9_mark_48 : decode cX9_mark 48 = .ok (.getfield 54, 3) := by decide +kernel
theorem dX9_mark_51 : decode cX9_mark 51 = .ok (.iload_n 1, 1) := by decide +kernel
theorem dX9_mark_52 : decode cX9_mark 52 = .ok (.aload_n 0, 1) := by decide +kernel
theorem dX9_mark_53 : decode cX9_mark 53 = .ok (.getfield 54, 3) := by decide +kernel
theorem dX9_mark_56 : decode cX9_mark 56 = .ok (.iload_n 2, 1) := by decide +kernel
theorem dX9_mark_57 : decode cX9_mark 57 = .ok (.iload_n 3, 1) := by decide +kernel
theorem dX9_mark_58 : decode cX9_mark 58 = .ok (.invokestatic 58, 3) := by decide +kernel
theorem dX9_mark_61 : decode cX9_mark 61 = .ok (.aastore, 1) := by decide +kernel
theorem dX9_mark_62 : decode cX9_mark 62 = .ok (.aload_n 0, 1) := by decide +kernel
theorem dX9_mark_63 : decode cX9_mark 63 = .ok (.dup, 1) := by decide +kernel
theorem dX9_mark_64 : decode cX9_mark 64 = .ok (.getfield 54, 3) := by decide +kernel
theorem dX9_mark_67 : decode cX9_mark 67 = .ok (.iconst 1, 1) := by decide +kernel
theorem dX9_mark_68 : decode cX9_mark 68 = .ok (.iadd, 1) := by decide +kernel
theorem dX9_mark_69 : decode cX9_mark 69 = .ok (.putfield 54, 3) := by decide +kernel
theorem dX9_mark_72 : decode cX9_mark 72 = .ok (.aload_n 0, 1) := by decide +kernel
theorem dX9_mark_73 : decode cX9_mark 73 = .ok (.invokevirtual 62, 3) := by decide +kernel
theorem dX9_mark_76 : decode cX9_mark 76 = .ok (.aload_n 0, 1) := by decide +kernel
theorem dX9_mark_77 : decode cX9_mark 77 = .ok (.getfield 54, 3) := by decide +kernel
theorem dX9_mark_80 : decode cX9_mark 80 = .ok (.iconst 1, 1) := by decide +kernel
theorem dX9_mark_81 : decode cX9_mark 81 = .ok (.isub, 1) := by decide +kernel
theorem dX9_mark_82 : decode cX9_mark 82 = .ok (.ireturn, 1) := by decide +kernel
set_option maxRecDepth 20000 in
theorem ggX9_antenna_X9_markAt : GoodIn wsX9_antenna wsX9_markAt := goodIn_r _ [6, 7, 8, 25, 26, 27, 28, 29, 30, 31, 32] (by decide +kernel) (by decide +kernel)
set_option maxRecDepth 20000 in
theorem gX9_antenna_X9_markAt : GoodIn wsX9_antenna (wsV RX9 65 RX9 yX9_markAt wsX9_markAt) := goodIn_app (goodIn_of _ (by decide +kernel)) ggX9_antenna_X9_markAt
set_option maxRecDepth 20000 in
theorem ggX9_antenna_X9_isEpoch : GoodIn wsX9_antenna wsX9_isEpoch := goodIn_r _ [11] (by decide +kernel) (by decide +kernel)
set_option maxRecDepth 20000 in
theorem gX9_antenna_X9_isEpoch : GoodIn wsX9_antenna (va_wsS RX9 69 yX9_isEpoch wsX9_isEpoch) := goodIn_app (goodIn_of _ (by decide +kernel)) ggX9_antenna_X9_isEpoch
set_option maxRecDepth 20000 in
theorem ggX9_antenna_X9_within : GoodIn wsX9_antenna wsX9_within := goodIn_r _ [14] (by decide +kernel) (by decide +kernel)
set_option maxRecDepth 20000 in
theorem gX9_antenna_X9_within : GoodIn wsX9_antenna (va_wsS RX9 50 yX9_within wsX9_within) := goodIn_app (goodIn_of _ (by decide +kernel)) ggX9_antenna_X9_within
set_option maxRecDepth 20000 in
theorem ggX9_antenna_X4_changeAntenna : GoodIn wsX9_antenna wsX4_changeAntenna := goodIn_r _ [19, 20, 21, 33, 34, 35, 36, 37, 38, 39, 40, 41, 42, 43, 44, 45, 46, 47, 48, 49, 50, 51, 52, 53, 54, 55, 56, 57, 58] (by decide +kernel) (by decide +kernel)
set_option maxRecDepth 20000 in
theorem gX9_antenna_X4_changeAntenna : GoodIn wsX9_antenna (wsV RX9 75 RX4 yX4_changeAntenna wsX4_changeAntenna) := goodIn_app (goodIn_of _ (by decide +kernel)) ggX9_antenna_X4_changeAntenna
set_option maxRecDepth 20000 in
theorem gX9_antenna_X4_changeAntenna_u75X8 : GoodIn wsX9_antenna (va_wsU RX9 75 RX8 "CreepBoard$Receiver" ⟨"CreepBoard$Receiver", "changeAntenna", "(II)I"⟩ yX4_changeAntenna wsX4_changeAntenna) := goodIn_app (goodIn_of _ (by decide +kernel)) ggX9_antenna_X4_changeAntenna
theorem dX9_antenna_0 : decode cX9_antenna 0 = .ok (.aload_n 0, 1) := by decide +kernel
theorem dX9_antenna_1 : decode cX9_antenna 1 = .ok (.iload_n 1, 1) := by decide +kernel
theorem dX9_antenna_2 : decode cX9_antenna 2 = .ok (.invokevirtual 65, 3) := by decide +kernel
theorem dX9_antenna_5 : decode cX9_antenna 5 = .ok (.astore 4, 2) := by decide +kernel
theorem dX9_antenna_7 : decode cX9_antenna 7 = .ok (.aload 4, 2) := by decide +kernel
theorem dX9_antenna_9 : decode cX9_antenna 9 = .ok (.ifnull 19, 3) := by decide +kernel
theorem dX9_antenna_12 : decode cX9_antenna 12 = .ok (.iload_n 2, 1) := by decide +kernel
theorem dX9_antenna_13 : decode cX9_antenna 13 = .ok (.invokestatic 69, 3) := by decide +kernel
theorem dX9_antenna_16 : decode cX9_antenna 16 = .ok (.ifCond .eq 12, 3) := by decide +kernel
theorem dX9_antenna_19 : decode cX9_antenna 19 = .ok (.iload_n 3, 1) := by decide +kernel
theorem dX9_antenna_20 : decode cX9_antenna 20 = .ok (.bipush 99, 2) := by decide +kernel
theorem dX9_antenna_22 : decode cX9_antenna 22 = .ok (.invokestatic 50, 3) := by decide +kernel
theorem dX9_antenna_25 : decode cX9_antenna 25 = .ok (.ifCond .ne 7, 3) := by decide +kernel
theorem dX9_antenna_28 : decode cX9_antenna 28 = .ok (.sipush (-1001), 3) := by decide +kernel
theorem dX9_antenna_31 : decode cX9_antenna 31 = .ok (.ireturn, 1) := by decide +kernel
theorem dX9_antenna_32 : decode cX9_antenna 32 = .ok (.aload 4, 2) := by decide +kernel
theorem dX9_antenna_34 : decode cX9_antenna 34 = .ok (.instanceof 73, 3) := by decide +kernel
theorem dX9_antenna_37 : decode cX9_antenna 37 = .ok (.ifCond .eq 18, 3) := by decide +kernel
theorem dX9_antenna_40 : decode cX9_antenna 40 = .ok (.aload 4, 2) := by decide +kernel
theorem dX9_antenna_42 : decode cX9_antenna 42 = .ok (.checkcast 73, 3) := by decide +kernel
theorem dX9_antenna_45 : decode cX9_antenna 45 = .ok (.astore 5, 2) := by decide +kernel
theorem dX9_antenna_47 : decode cX9_antenna 47 = .ok (.aload 5, 2) := by decide +kernel
theorem dX9_antenna_49 : decode cX9_antenna 49 = .ok (.iload_n 2, 1) := by decide +kernel
theorem dX9_antenna_50 : decode cX9_antenna 50 = .ok (.iload_n 3, 1) := by decide +kernel
theorem dX9_antenna_51 : decode cX9_antenna 51 = .ok (.invokevirtual 75, 3) := by decide +kernel
theorem dX9_antenna_54 : decode cX9_antenna 54 = .ok (.ireturn, 1) := by decide +kernel
theorem dX9_antenna_55 : decode cX9_antenna 55 = .ok (.sipush (-1003), 3) := by decide +kernel
theorem dX9_antenna_58 : decode cX9_antenna 58 = .ok (.ireturn, 1) := by decide +kernel
set_option maxRecDepth 20000 in
theorem ggX9_read_X9_markAt : GoodIn wsX9_read wsX9_markAt := goodIn_r _ [6, 7, 8, 28, 29, 30, 31, 32, 33, 34, 35] (by decide +kernel) (by decide +kernel)
set_option maxRecDepth 20000 in
theorem gX9_read_X9_markAt : GoodIn wsX9_read (wsV RX9 65 RX9 yX9_markAt wsX9_markAt) := goodIn_app (goodIn_of _ (by decide +kernel)) ggX9_read_X9_markAt
set_option maxRecDepth 20000 in
theorem ggX9_read_X9_isEpoch : GoodIn wsX9_read wsX9_isEpoch := goodIn_r _ [11] (by decide +kernel) (by decide +kernel)
set_option maxRecDepth 20000 in
theorem gX9_read_X9_isEpoch : GoodIn wsX9_read (va_wsS RX9 69 yX9_isEpoch wsX9_isEpoch) := goodIn_app (goodIn_of _ (by decide +kernel)) ggX9_read_X9_isEpoch
set_option maxRecDepth 20000 in
theorem ggX9_read_X9_within : GoodIn wsX9_read wsX9_within := goodIn_r _ [14] (by decide +kernel) (by decide +kernel)
set_option maxRecDepth 20000 in
theorem gX9_read_X9_within : GoodIn wsX9_read (va_wsS RX9 50 yX9_within wsX9_within) := goodIn_app (goodIn_of _ (by decide +kernel)) ggX9_read_X9_within
set_option maxRecDepth 20000 in
theorem ggX9_read_X3_putReading : GoodIn wsX9_read wsX3_putReading := goodIn_r _ [20, 21, 22, 23, 36, 37, 38, 39, 40, 41, 42, 43, 44, 45, 46, 47, 48, 49, 50, 51, 52, 53, 54, 55, 56, 57, 58, 59, 60, 61, 62, 63, 64, 65, 66, 67, 68, 69, 70, 71, 72, 73, 74, 75, 76, 77, 78, 79, 80, 81, 82, 83] (by decide +kernel) (by decide +kernel)
set_option maxRecDepth 20000 in
theorem gX9_read_X3_putReading_u80X1 : GoodIn wsX9_read (va_wsU RX9 80 RX1 "CreepBoard$Mark" ⟨"CreepBoard$Mark", "putReading", "(III)Z"⟩ yX3_putReading wsX3_putReading) := goodIn_app (goodIn_of _ (by decide +kernel)) ggX9_read_X3_putReading
set_option maxRecDepth 20000 in
theorem gX9_read_X3_putReading : GoodIn wsX9_read (wsV RX9 80 RX3 yX3_putReading wsX3_putReading) := goodIn_app (goodIn_of _ (by decide +kernel)) ggX9_read_X3_putReading
set_option maxRecDepth 20000 in
theorem gX9_read_X3_putReading_u80X4 : GoodIn wsX9_read (va_wsU RX9 80 RX4 "CreepBoard$Mark" ⟨"CreepBoard$Mark", "putReading", "(III)Z"⟩ yX3_putReading wsX3_putReading) := goodIn_app (goodIn_of _ (by decide +kernel)) ggX9_read_X3_putReading
set_option maxRecDepth 20000 in
theorem gX9_read_X3_putReading_u80X8 : GoodIn wsX9_read (va_wsU RX9 80 RX8 "CreepBoard$Mark" ⟨"CreepBoard$Mark", "putReading", "(III)Z"⟩ yX3_putReading wsX3_putReading) := goodIn_app (goodIn_of _ (by decide +kernel)) ggX9_read_X3_putReading
theorem dX9_read_0 : decode cX9_read 0 = .ok (.aload_n 0, 1) := by decide +kernel
theorem dX9_read_1 : decode cX9_read 1 = .ok (.iload_n 1, 1) := by decide +kernel
theorem dX9_read_2 : decode cX9_read 2 = .ok (.invokevirtual 65, 3) := by decide +kernel
theorem dX9_read_5 : decode cX9_read 5 = .ok (.astore 5, 2) := by decide +kernel
theorem dX9_read_7 : decode cX9_read 7 = .ok (.aload 5, 2) := by decide +kernel
theorem dX9_read_9 : decode cX9_read 9 = .ok (.ifnull 29, 3) := by decide +kernel
theorem dX9_read_12 : decode cX9_read 12 = .ok (.iload_n 2, 1) := by decide +kernel
theorem dX9_read_13 : decode cX9_read 13 = .ok (.invokestatic 69, 3) := by decide +kernel
theorem dX9_read_16 : decode cX9_read 16 = .ok (.ifCond .eq 22, 3) := by decide +kernel
theorem dX9_read_19 : decode cX9_read 19 = .ok (.iload_n 3, 1) := by decide +kernel
theorem dX9_read_20 : decode cX9_read 20 = .ok (.ldc 79, 2) := by decide +kernel
theorem dX9_read_22 : decode cX9_read 22 = .ok (.invokestatic 50, 3) := by decide +kernel
theorem dX9_read_25 : decode cX9_read 25 = .ok (.ifCond .eq 13, 3) := by decide +kernel
theorem dX9_read_28 : decode cX9_read 28 = .ok (.iload 4, 2) := by decide +kernel
theorem dX9_read_30 : decode cX9_read 30 = .ok (.ldc 79, 2) := by decide +kernel
theorem dX9_read_32 : decode cX9_read 32 = .ok (.invokestatic 50, 3) := by decide +kernel
theorem dX9_read_35 : decode cX9_read 35 = .ok (.ifCond .ne 5, 3) := by decide +kernel
theorem dX9_read_38 : decode cX9_read 38 = .ok (.iconst (-1), 1) := by decide +kernel
theorem dX9_read_39 : decode cX9_read 39 = .ok (.ireturn, 1) := by decide +kernel
theorem dX9_read_40 : decode cX9_read 40 = .ok (.aload 5, 2) := by decide +kernel
theorem dX9_read_42 : decode cX9_read 42 = .ok (.iload_n 2, 1) := by decide +kernel
theorem dX9_read_43 : decode cX9_read 43 = .ok (.iload_n 3, 1) := by decide +kernel
theorem dX9_read_44 : decode cX9_read 44 = .ok (.iload 4, 2) := by decide +kernel
theorem dX9_read_46 : decode cX9_read 46 = .ok (.invokevirtual 80, 3) := by decide +kernel
theorem dX9_read_49 : decode cX9_read 49 = .ok (.ifCond .eq 7, 3) := by decide +kernel
theorem dX9_read_52 : decode cX9_read 52 = .ok (.iconst 1, 1) := by decide +kernel
theorem dX9_read_53 : decode cX9_read 53 = .ok (.goto 4, 3) := by decide +kernel
theorem dX9_read_56 : decode cX9_read 56 = .ok (.iconst 0, 1) := by decide +kernel
theorem dX9_read_57 : decode cX9_read 57 = .ok (.ireturn, 1) := by decide +kernel
set_option maxRecDepth 20000 in
theorem ggX9_gap_X9_markAt : GoodIn wsX9_gap wsX9_markAt := goodIn_r _ [5, 6, 7, 23, 24, 25, 26, 27, 28, 29, 30] (by decide +kernel) (by decide +kernel)
set_option maxRecDepth 20000 in
theorem gX9_gap_X9_markAt : GoodIn wsX9_gap (wsV RX9 65 RX9 yX9_markAt wsX9_markAt) := goodIn_app (goodIn_of _ (by decide +kernel)) ggX9_gap_X9_markAt
set_option maxRecDepth 20000 in
theorem ggX9_gap_X9_isEpoch : GoodIn wsX9_gap wsX9_isEpoch := goodIn_r _ [10] (by decide +kernel) (by decide +kernel)
set_option maxRecDepth 20000 in
theorem gX9_gap_X9_isEpoch : GoodIn wsX9_gap (va_wsS RX9 69 yX9_isEpoch wsX9_isEpoch) := goodIn_app (goodIn_of _ (by decide +kernel)) ggX9_gap_X9_isEpoch
set_option maxRecDepth 20000 in
theorem ggX9_gap_X3_dropReading : GoodIn wsX9_gap wsX3_dropReading := goodIn_r _ [16, 17, 18, 31, 32, 33, 34, 35, 36, 37, 38, 39, 40, 41, 42, 43, 44, 45, 46, 47, 48, 49, 50, 51, 52, 53, 54, 55, 56, 57, 58, 59, 60, 61, 62, 63, 64, 65, 66, 67, 68, 69, 70, 71, 72, 73, 74, 75, 76, 77, 78] (by decide +kernel) (by decide +kernel)
set_option maxRecDepth 20000 in
theorem gX9_gap_X3_dropReading_u84X1 : GoodIn wsX9_gap (va_wsU RX9 84 RX1 "CreepBoard$Mark" ⟨"CreepBoard$Mark", "dropReading", "(I)Z"⟩ yX3_dropReading wsX3_dropReading) := goodIn_app (goodIn_of _ (by decide +kernel)) ggX9_gap_X3_dropReading
set_option maxRecDepth 20000 in
theorem gX9_gap_X3_dropReading : GoodIn wsX9_gap (wsV RX9 84 RX3 yX3_dropReading wsX3_dropReading) := goodIn_app (goodIn_of _ (by decide +kernel)) ggX9_gap_X3_dropReading
set_option maxRecDepth 20000 in
theorem gX9_gap_X3_dropReading_u84X4 : GoodIn wsX9_gap (va_wsU RX9 84 RX4 "CreepBoard$Mark" ⟨"CreepBoard$Mark", "dropReading", "(I)Z"⟩ yX3_dropReading wsX3_dropReading) := goodIn_app (goodIn_of _ (by decide +kernel)) ggX9_gap_X3_dropReading
set_option maxRecDepth 20000 in
theorem gX9_gap_X3_dropReading_u84X8 : GoodIn wsX9_gap (va_wsU RX9 84 RX8 "CreepBoard$Mark" ⟨"CreepBoard$Mark", "dropReading", "(I)Z"⟩ yX3_dropReading wsX3_dropReading) := goodIn_app (goodIn_of _ (by decide +kernel)) ggX9_gap_X3_dropReading
theorem dX9_gap_0 : decode cX9_gap 0 = .ok (.aload_n 0, 1) := by decide +kernel
theorem dX9_gap_1 : decode cX9_gap 1 = .ok (.iload_n 1, 1) := by decide +kernel
theorem dX9_gap_2 : decode cX9_gap 2 = .ok (.invokevirtual 65, 3) := by decide +kernel
theorem dX9_gap_5 : decode cX9_gap 5 = .ok (.astore_n 3, 1) := by decide +kernel
theorem dX9_gap_6 : decode cX9_gap 6 = .ok (.aload_n 3, 1) := by decide +kernel
theorem dX9_gap_7 : decode cX9_gap 7 = .ok (.ifnull 10, 3) := by decide +kernel
theorem dX9_gap_10 : decode cX9_gap 10 = .ok (.iload_n 2, 1) := by decide +kernel
theorem dX9_gap_11 : decode cX9_gap 11 = .ok (.invokestatic 69, 3) := by decide +kernel
theorem dX9_gap_14 : decode cX9_gap 14 = .ok (.ifCond .ne 5, 3) := by decide +kernel
theorem dX9_gap_17 : decode cX9_gap 17 = .ok (.iconst (-1), 1) := by decide +kernel
theorem dX9_gap_18 : decode cX9_gap 18 = .ok (.ireturn, 1) := by decide +kernel
theorem dX9_gap_19 : decode cX9_gap 19 = .ok (.aload_n 3, 1) := by decide +kernel
theorem dX9_gap_20 : decode cX9_gap 20 = .ok (.iload_n 2, 1) := by decide +kernel
theorem dX9_gap_21 : decode cX9_gap 21 = .ok (.invokevirtual 84, 3) := by decide +kernel
theorem dX9_gap_24 : decode cX9_gap 24 = .ok (.ifCond .eq 7, 3) := by decide +kernel
theorem dX9_gap_27 : decode cX9_gap 27 = .ok (.iconst 1, 1) := by decide +kernel
theorem dX9_gap_28 : decode cX9_gap 28 = .ok (.goto 4, 3) := by decide +kernel
theorem dX9_gap_31 : decode cX9_gap 31 = .ok (.iconst 0, 1) := by decide +kernel
theorem dX9_gap_32 : decode cX9_gap 32 = .ok (.ireturn, 1) := by decide +kernel
set_option maxRecDepth 20000 in
theorem ggX9_step_X9_markAt : GoodIn wsX9_step wsX9_markAt := goodIn_r _ [5, 6, 7, 36, 37, 38, 39, 40, 41, 42, 43] (by decide +kernel) (by decide +kernel)
set_option maxRecDepth 20000 in
theorem gX9_step_X9_markAt : GoodIn wsX9_step (wsV RX9 65 RX9 yX9_markAt wsX9_markAt) := goodIn_app (goodIn_of _ (by decide +kernel)) ggX9_step_X9_markAt
set_option maxRecDepth 20000 in
theorem ggX9_step_X9_isEpoch : GoodIn wsX9_step wsX9_isEpoch := goodIn_r _ [10] (by decide +kernel) (by decide +kernel)
set_option maxRecDepth 20000 in
theorem gX9_step_X9_isEpoch : GoodIn wsX9_step (va_wsS RX9 69 yX9_isEpoch wsX9_isEpoch) := goodIn_app (goodIn_of _ (by decide +kernel)) ggX9_step_X9_isEpoch
set_option maxRecDepth 20000 in
theorem ggX9_step_X9_within : GoodIn wsX9_step wsX9_within := goodIn_r _ [13] (by decide +kernel) (by decide +kernel)
set_option maxRecDepth 20000 in
theorem gX9_step_X9_within : GoodIn wsX9_step (va_wsS RX9 50 yX9_within wsX9_within) := goodIn_app (goodIn_of _ (by decide +kernel)) ggX9_step_X9_within
set_option maxRecDepth 20000 in
theorem ggX9_step_X3_addStep : GoodIn wsX9_step wsX3_addStep := goodIn_r _ [19, 20, 21, 22, 44, 45, 46, 47, 48, 49, 50, 51, 52, 53, 54, 55, 56, 57, 58, 59, 60, 61, 62, 63, 64, 65, 66, 67, 68, 69, 70, 71, 72, 73, 74, 75, 76, 77, 78, 79, 80, 81, 82, 83, 84, 85, 86, 87, 88, 89, 90, 91] (by decide +kernel) (by decide +kernel)
set_option maxRecDepth 20000 in
theorem gX9_step_X3_addStep_u87X1 : GoodIn wsX9_step (va_wsU RX9 87 RX1 "CreepBoard$Mark" ⟨"CreepBoard$Mark", "addStep", "(III)Z"⟩ yX3_addStep wsX3_addStep) := goodIn_app (goodIn_of _ (by decide +kernel)) ggX9_step_X3_addStep
set_option maxRecDepth 20000 in
theorem gX9_step_X3_addStep : GoodIn wsX9_step (wsV RX9 87 RX3 yX3_addStep wsX3_addStep) := goodIn_app (goodIn_of _ (by decide +kernel)) ggX9_step_X3_addStep
set_option maxRecDepth 20000 in
theorem gX9_step_X3_addStep_u87X4 : GoodIn wsX9_step (va_wsU RX9 87 RX4 "CreepBoard$Mark" ⟨"CreepBoard$Mark", "addStep", "(III)Z"⟩ yX3_addStep wsX3_addStep) := goodIn_app (goodIn_of _ (by decide +kernel)) ggX9_step_X3_addStep
set_option maxRecDepth 20000 in
theorem gX9_step_X3_addStep_u87X8 : GoodIn wsX9_step (va_wsU RX9 87 RX8 "CreepBoard$Mark" ⟨"CreepBoard$Mark", "addStep", "(III)Z"⟩ yX3_addStep wsX3_addStep) := goodIn_app (goodIn_of _ (by decide +kernel)) ggX9_step_X3_addStep
set_option maxRecDepth 20000 in
theorem ggX9_step_X3_stepCount : GoodIn wsX9_step wsX3_stepCount := goodIn_r _ [31, 20, 44, 45, 46, 47, 48, 49, 50, 51, 52, 53, 54, 55, 56, 57, 58, 59, 60, 61, 62, 63, 64, 65, 66, 67, 68, 69, 70, 71, 72, 73, 74, 75, 76, 77, 78, 79, 80, 81, 82, 83, 84, 85, 86, 87, 88, 89, 90, 91] (by decide +kernel) (by decide +kernel)
set_option maxRecDepth 20000 in
theorem gX9_step_X3_stepCount_u90X1 : GoodIn wsX9_step (va_wsU RX9 90 RX1 "CreepBoard$Mark" ⟨"CreepBoard$Mark", "stepCount", "()I"⟩ yX3_stepCount wsX3_stepCount) := goodIn_app (goodIn_of _ (by decide +kernel)) ggX9_step_X3_stepCount
set_option maxRecDepth 20000 in
theorem gX9_step_X3_stepCount : GoodIn wsX9_step (wsV RX9 90 RX3 yX3_stepCount wsX3_stepCount) := goodIn_app (goodIn_of _ (by decide +kernel)) ggX9_step_X3_stepCount
set_option maxRecDepth 20000 in
theorem gX9_step_X3_stepCount_u90X4 : GoodIn wsX9_step (va_wsU RX9 90 RX4 "CreepBoard$Mark" ⟨"CreepBoard$Mark", "stepCount", "()I"⟩ yX3_stepCount wsX3_stepCount) := goodIn_app (goodIn_of _ (by decide +kernel)) ggX9_step_X3_stepCount
set_option maxRecDepth 20000 in
theorem gX9_step_X3_stepCount_u90X8 : GoodIn wsX9_step (va_wsU RX9 90 RX8 "CreepBoard$Mark" ⟨"CreepBoard$Mark", "stepCount", "()I"⟩ yX3_stepCount wsX3_stepCount) := goodIn_app (goodIn_of _ (by decide +kernel)) ggX9_step_X3_stepCount
theorem dX9_step_0 : decode cX9_step 0 = .ok (.aload_n 0, 1) := by decide +kernel
theorem dX9_step_1 : decode cX9_step 1 = .ok (.iload_n 1, 1) := by decide +kernel
theorem dX9_step_2 : decode cX9_step 2 = .ok (.invokevirtual 65, 3) := by decide +kernel
theorem dX9_step_5 : decode cX9_step 5 = .ok (.astore 5, 2) := by decide +kernel
theorem dX9_step_7 : decode cX9_step 7 = .ok (.aload 5, 2) := by decide +kernel
theorem dX9_step_9 : decode cX9_step 9 = .ok (.ifnull 31, 3) := by decide +kernel
theorem dX9_step_12 : decode cX9_step 12 = .ok (.iload_n 2, 1) := by decide +kernel
theorem dX9_step_13 : decode cX9_step 13 = .ok (.invokestatic 69, 3) := by decide +kernel
theorem dX9_step_16 : decode cX9_step 16 = .ok (.ifCond .eq 24, 3) := by decide +kernel
theorem dX9_step_19 : decode cX9_step 19 = .ok (.iload_n 3, 1) := by decide +kernel
theorem dX9_step_20 : decode cX9_step 20 = .ok (.sipush 10000, 3) := by decide +kernel
theorem dX9_step_23 : decode cX9_step 23 = .ok (.invokestatic 50, 3) := by decide +kernel
theorem dX9_step_26 : decode cX9_step 26 = .ok (.ifCond .eq 14, 3) := by decide +kernel
theorem dX9_step_29 : decode cX9_step 29 = .ok (.iload 4, 2) := by decide +kernel
theorem dX9_step_31 : decode cX9_step 31 = .ok (.sipush 10000, 3) := by decide +kernel
theorem dX9_step_34 : decode cX9_step 34 = .ok (.invokestatic 50, 3) := by decide +kernel
theorem dX9_step_37 : decode cX9_step 37 = .ok (.ifCond .ne 5, 3) := by decide +kernel
theorem dX9_step_40 : decode cX9_step 40 = .ok (.iconst (-1), 1) := by decide +kernel
theorem dX9_step_41 : decode cX9_step 41 = .ok (.ireturn, 1) := by decide +kernel
theorem dX9_step_42 : decode cX9_step 42 = .ok (.aload 5, 2) := by decide +kernel
theorem dX9_step_44 : decode cX9_step 44 = .ok (.iload_n 2, 1) := by decide +kernel
theorem dX9_step_45 : decode cX9_step 45 = .ok (.iload_n 3, 1) := by decide +kernel
theorem dX9_step_46 : decode cX9_step 46 = .ok (.iload 4, 2) := by decide +kernel
theorem dX9_step_48 : decode cX9_step 48 = .ok (.invokevirtual 87, 3) := by decide +kernel
theorem dX9_step_51 : decode cX9_step 51 = .ok (.ifCond .eq 11, 3) := by decide +kernel
theorem dX9_step_54 : decode cX9_step 54 = .ok (.aload 5, 2) := by decide +kernel
theorem dX9_step_56 : decode cX9_step 56 = .ok (.invokevirtual 90, 3) := by decide +kernel
theorem dX9_step_59 : decode cX9_step 59 = .ok (.goto 5, 3) := by decide +kernel
theorem dX9_step_62 : decode cX9_step 62 = .ok (.bipush (-2), 2) := by decide +kernel
theorem dX9_step_64 : decode cX9_step 64 = .ok (.ireturn, 1) := by decide +kernel
theorem dX9_cleared_0 : decode cX9_cleared 0 = .ok (.aload_n 0, 1) := by decide +kernel
theorem dX9_cleared_1 : decode cX9_cleared 1 = .ok (.iload_n 1, 1) := by decide +kernel
theorem dX9_cleared_2 : decode cX9_cleared 2 = .ok (.invokevirtual 65, 3) := by decide +kernel
theorem dX9_cleared_5 : decode cX9_cleared 5 = .ok (.astore 4, 2) := by decide +kernel
theorem dX9_cleared_7 : decode cX9_cleared 7 = .ok (.aload 4, 2) := by decide +kernel
theorem dX9_cleared_9 : decode cX9_cleared 9 = .ok (.ifnull 17, 3) := by decide +kernel
theorem dX9_cleared_12 : decode cX9_cleared 12 = .ok (.iload_n 2, 1) := by decide +kernel
theorem dX9_cleared_13 : decode cX9_cleared 13 = .ok (.invokestatic 69, 3) := by decide +kernel
theorem dX9_cleared_16 : decode cX9_cleared 16 = .ok (.ifCond .eq 10, 3) := by decide +kernel
theorem dX9_cleared_19 : decode cX9_cleared 19 = .ok (.iload_n 3, 1) := by decide +kernel
theorem dX9_cleared_20 : decode cX9_cleared 20 = .ok (.invokestatic 94, 3) := by decide +kernel
theorem dX9_cleared_23 : decode cX9_cleared 23 = .ok (.ifCond .ne 13, 3) := by decide +kernel
theorem dX9_cleared_26 : decode cX9_cleared 26 = .ok (.new 97, 3) := by decide +kernel
theorem dX9_cleared_29 : decode cX9_cleared 29 = .ok (.dup, 1) := by decide +kernel
theorem dX9_cleared_30 : decode cX9_cleared 30 = .ok (.ldc 99, 2) := by decide +kernel
theorem dX9_cleared_32 : decode cX9_cleared 32 = .ok (.invokespecial 101, 3) := by decide +kernel
theorem dX9_cleared_35 : decode cX9_cleared 35 = .ok (.athrow, 1) := by decide +kernel
theorem dX9_cleared_36 : decode cX9_cleared 36 = .ok (.aload 4, 2) := by decide +kernel
theorem dX9_cleared_38 : decode cX9_cleared 38 = .ok (.iload_n 2, 1) := by decide +kernel
theorem dX9_cleared_39 : decode cX9_cleared 39 = .ok (.invokevirtual 104, 3) := by decide +kernel
theorem dX9_cleared_42 : decode cX9_cleared 42 = .ok (.ifCond .ne 13, 3) := by decide +kernel
theorem dX9_cleared_45 : decode cX9_cleared 45 = .ok (.new 107, 3) := by decide +kernel
theorem dX9_cleared_48 : decode cX9_cleared 48 = .ok (.dup, 1) := by decide +kernel
theorem dX9_cleared_49 : decode cX9_cleared 49 = .ok (.ldc 109, 2) := by decide +kernel
theorem dX9_cleared_51 : decode cX9_cleared 51 = .ok (.invokespecial 111, 3) := by decide +kernel
theorem dX9_cleared_54 : decode cX9_cleared 54 = .ok (.athrow, 1) := by decide +kernel
theorem dX9_cleared_55 : decode cX9_cleared 55 = .ok (.aload 4, 2) := by decide +kernel
theorem dX9_cleared_57 : decode cX9_cleared 57 = .ok (.iload_n 2, 1) := by decide +kernel
theorem dX9_cleared_58 : decode cX9_cleared 58 = .ok (.iload_n 3, 1) := by decide +kernel
theorem dX9_cleared_59 : decode cX9_cleared 59 = .ok (.invokevirtual 112, 3) := by decide +kernel
theorem dX9_cleared_62 : decode cX9_cleared 62 = .ok (.lreturn, 1) := by decide +kernel
set_option maxRecDepth 20000 in
theorem ggX9_many_X9_markAt : GoodIn wsX9_many wsX9_markAt := goodIn_r _ [6, 7, 8, 86, 87, 88, 89, 90, 91, 92, 93] (by decide +kernel) (by decide +kernel)
set_option maxRecDepth 20000 in
theorem gX9_many_X9_markAt : GoodIn wsX9_many (wsV RX9 65 RX9 yX9_markAt wsX9_markAt) := goodIn_app (goodIn_of _ (by decide +kernel)) ggX9_many_X9_markAt
