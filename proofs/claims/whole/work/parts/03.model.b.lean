theorem dX10_cleared_18 : decode cX10_cleared 18 = .ok (.iload_n 3, 1) := by decide +kernel
theorem dX10_cleared_19 : decode cX10_cleared 19 = .ok (.invokevirtual 143, 3) := by decide +kernel
theorem dX10_cleared_22 : decode cX10_cleared 22 = .ok (.ifCond .ne 7, 3) := by decide +kernel
theorem dX10_cleared_25 : decode cX10_cleared 25 = .ok (.iconst 1, 1) := by decide +kernel
theorem dX10_cleared_26 : decode cX10_cleared 26 = .ok (.goto 17, 3) := by decide +kernel
theorem dX10_cleared_29 : decode cX10_cleared 29 = .ok (.aload_n 0, 1) := by decide +kernel
theorem dX10_cleared_30 : decode cX10_cleared 30 = .ok (.iload_n 1, 1) := by decide +kernel
theorem dX10_cleared_31 : decode cX10_cleared 31 = .ok (.iload_n 2, 1) := by decide +kernel
theorem dX10_cleared_32 : decode cX10_cleared 32 = .ok (.invokevirtual 146, 3) := by decide +kernel
theorem dX10_cleared_35 : decode cX10_cleared 35 = .ok (.ifCond .eq 7, 3) := by decide +kernel
theorem dX10_cleared_38 : decode cX10_cleared 38 = .ok (.iconst 0, 1) := by decide +kernel
theorem dX10_cleared_39 : decode cX10_cleared 39 = .ok (.goto 4, 3) := by decide +kernel
theorem dX10_cleared_42 : decode cX10_cleared 42 = .ok (.iconst 2, 1) := by decide +kernel
theorem dX10_cleared_43 : decode cX10_cleared 43 = .ok (.putfield 7, 3) := by decide +kernel
theorem dX10_cleared_46 : decode cX10_cleared 46 = .ok (.aload_n 0, 1) := by decide +kernel
theorem dX10_cleared_47 : decode cX10_cleared 47 = .ok (.getfield 7, 3) := by decide +kernel
theorem dX10_cleared_50 : decode cX10_cleared 50 = .ok (.ifCond .le 7, 3) := by decide +kernel
theorem dX10_cleared_53 : decode cX10_cleared 53 = .ok (.lconst 0, 1) := by decide +kernel
theorem dX10_cleared_54 : decode cX10_cleared 54 = .ok (.goto 10, 3) := by decide +kernel
theorem dX10_cleared_57 : decode cX10_cleared 57 = .ok (.aload_n 0, 1) := by decide +kernel
theorem dX10_cleared_58 : decode cX10_cleared 58 = .ok (.iload_n 1, 1) := by decide +kernel
theorem dX10_cleared_59 : decode cX10_cleared 59 = .ok (.iload_n 2, 1) := by decide +kernel
theorem dX10_cleared_60 : decode cX10_cleared 60 = .ok (.iload_n 3, 1) := by decide +kernel
theorem dX10_cleared_61 : decode cX10_cleared 61 = .ok (.invokevirtual 149, 3) := by decide +kernel
theorem dX10_cleared_64 : decode cX10_cleared 64 = .ok (.lreturn, 1) := by decide +kernel
set_option maxRecDepth 20000 in
theorem ggX10_manyOf_X10_isCleared : GoodIn wsX10_manyOf wsX10_isCleared := goodIn_r _ [5, 6, 7, 8, 9, 4, 10, 11, 12, 13, 14, 15, 16, 17, 18, 19, 20, 21, 22, 23, 24, 25, 26, 27, 28, 29, 30, 31, 32, 33, 34, 35, 36, 37, 38, 39, 40, 41, 42, 43, 44, 45, 46, 47, 48] (by decide +kernel) (by decide +kernel)
set_option maxRecDepth 20000 in
theorem gX10_manyOf_X10_isCleared : GoodIn wsX10_manyOf (wsV RX10 146 RX10 yX10_isCleared wsX10_isCleared) := goodIn_app (goodIn_of _ (by decide +kernel)) ggX10_manyOf_X10_isCleared
theorem dX10_manyOf_0 : decode cX10_manyOf 0 = .ok (.iconst 0, 1) := by decide +kernel
theorem dX10_manyOf_1 : decode cX10_manyOf 1 = .ok (.istore_n 2, 1) := by decide +kernel
theorem dX10_manyOf_2 : decode cX10_manyOf 2 = .ok (.iconst 0, 1) := by decide +kernel
theorem dX10_manyOf_3 : decode cX10_manyOf 3 = .ok (.istore_n 3, 1) := by decide +kernel
theorem dX10_manyOf_4 : decode cX10_manyOf 4 = .ok (.iload_n 3, 1) := by decide +kernel
theorem dX10_manyOf_5 : decode cX10_manyOf 5 = .ok (.bipush 40, 2) := by decide +kernel
theorem dX10_manyOf_7 : decode cX10_manyOf 7 = .ok (.if_icmp .ge 26, 3) := by decide +kernel
theorem dX10_manyOf_10 : decode cX10_manyOf 10 = .ok (.iload_n 2, 1) := by decide +kernel
theorem dX10_manyOf_11 : decode cX10_manyOf 11 = .ok (.aload_n 0, 1) := by decide +kernel
theorem dX10_manyOf_12 : decode cX10_manyOf 12 = .ok (.iload_n 1, 1) := by decide +kernel
theorem dX10_manyOf_13 : decode cX10_manyOf 13 = .ok (.iload_n 3, 1) := by decide +kernel
theorem dX10_manyOf_14 : decode cX10_manyOf 14 = .ok (.invokevirtual 146, 3) := by decide +kernel
theorem dX10_manyOf_17 : decode cX10_manyOf 17 = .ok (.ifCond .eq 7, 3) := by decide +kernel
theorem dX10_manyOf_20 : decode cX10_manyOf 20 = .ok (.iconst 1, 1) := by decide +kernel
theorem dX10_manyOf_21 : decode cX10_manyOf 21 = .ok (.goto 4, 3) := by decide +kernel
theorem dX10_manyOf_24 : decode cX10_manyOf 24 = .ok (.iconst 0, 1) := by decide +kernel
theorem dX10_manyOf_25 : decode cX10_manyOf 25 = .ok (.iadd, 1) := by decide +kernel
theorem dX10_manyOf_26 : decode cX10_manyOf 26 = .ok (.istore_n 2, 1) := by decide +kernel
theorem dX10_manyOf_27 : decode cX10_manyOf 27 = .ok (.iinc 3 1, 3) := by decide +kernel
theorem dX10_manyOf_30 : decode cX10_manyOf 30 = .ok (.goto (-26), 3) := by decide +kernel
theorem dX10_manyOf_33 : decode cX10_manyOf 33 = .ok (.iload_n 2, 1) := by decide +kernel
theorem dX10_manyOf_34 : decode cX10_manyOf 34 = .ok (.ireturn, 1) := by decide +kernel
set_option maxRecDepth 20000 in
theorem ggX10_many_X10_isMark : GoodIn wsX10_many wsX10_isMark := goodIn_r _ [5, 6, 7, 8, 9, 4, 10, 29, 30, 31, 32, 33, 34, 35, 36, 37, 38, 39, 40, 41, 42, 43, 44, 45, 46, 47, 48, 49, 50, 51, 52, 53, 54, 55, 56, 57, 58, 59, 60, 61] (by decide +kernel) (by decide +kernel)
set_option maxRecDepth 20000 in
theorem gX10_many_X10_isMark : GoodIn wsX10_many (wsV RX10 116 RX10 yX10_isMark wsX10_isMark) := goodIn_app (goodIn_of _ (by decide +kernel)) ggX10_many_X10_isMark
set_option maxRecDepth 20000 in
theorem ggX10_many_X10_manyOf : GoodIn wsX10_many wsX10_manyOf := goodIn_r _ [14, 15, 16, 17, 4, 18, 19, 20, 21, 22, 23, 24, 25, 26, 27, 28, 29, 30, 31, 32, 33, 34, 35, 36, 37, 38, 39, 40, 41, 42, 43, 44, 45, 46, 47, 48, 49, 50, 51, 52, 53, 54, 55, 56, 57, 58, 59, 60, 61] (by decide +kernel) (by decide +kernel)
set_option maxRecDepth 20000 in
theorem gX10_many_X10_manyOf : GoodIn wsX10_many (wsV RX10 152 RX10 yX10_manyOf wsX10_manyOf) := goodIn_app (goodIn_of _ (by decide +kernel)) ggX10_many_X10_manyOf
theorem dX10_many_0 : decode cX10_many 0 = .ok (.aload_n 0, 1) := by decide +kernel
theorem dX10_many_1 : decode cX10_many 1 = .ok (.iload_n 1, 1) := by decide +kernel
theorem dX10_many_2 : decode cX10_many 2 = .ok (.invokevirtual 116, 3) := by decide +kernel
theorem dX10_many_5 : decode cX10_many 5 = .ok (.ifCond .eq 11, 3) := by decide +kernel
theorem dX10_many_8 : decode cX10_many 8 = .ok (.aload_n 0, 1) := by decide +kernel
theorem dX10_many_9 : decode cX10_many 9 = .ok (.iload_n 1, 1) := by decide +kernel
theorem dX10_many_10 : decode cX10_many 10 = .ok (.invokevirtual 152, 3) := by decide +kernel
theorem dX10_many_13 : decode cX10_many 13 = .ok (.goto 4, 3) := by decide +kernel
theorem dX10_many_16 : decode cX10_many 16 = .ok (.iconst (-1), 1) := by decide +kernel
theorem dX10_many_17 : decode cX10_many 17 = .ok (.ireturn, 1) := by decide +kernel
theorem dX10_divisor_0 : decode cX10_divisor 0 = .ok (.lload_n 1, 1) := by decide +kernel
theorem dX10_divisor_1 : decode cX10_divisor 1 = .ok (.lconst 0, 1) := by decide +kernel
theorem dX10_divisor_2 : decode cX10_divisor 2 = .ok (.lcmp, 1) := by decide +kernel
theorem dX10_divisor_3 : decode cX10_divisor 3 = .ok (.ifCond .ge 8, 3) := by decide +kernel
theorem dX10_divisor_6 : decode cX10_divisor 6 = .ok (.lload_n 1, 1) := by decide +kernel
theorem dX10_divisor_7 : decode cX10_divisor 7 = .ok (.lneg, 1) := by decide +kernel
theorem dX10_divisor_8 : decode cX10_divisor 8 = .ok (.goto 4, 3) := by decide +kernel
theorem dX10_divisor_11 : decode cX10_divisor 11 = .ok (.lload_n 1, 1) := by decide +kernel
theorem dX10_divisor_12 : decode cX10_divisor 12 = .ok (.lstore 5, 2) := by decide +kernel
theorem dX10_divisor_14 : decode cX10_divisor 14 = .ok (.lload_n 3, 1) := by decide +kernel
theorem dX10_divisor_15 : decode cX10_divisor 15 = .ok (.lconst 0, 1) := by decide +kernel
theorem dX10_divisor_16 : decode cX10_divisor 16 = .ok (.lcmp, 1) := by decide +kernel
theorem dX10_divisor_17 : decode cX10_divisor 17 = .ok (.ifCond .ge 8, 3) := by decide +kernel
theorem dX10_divisor_20 : decode cX10_divisor 20 = .ok (.lload_n 3, 1) := by decide +kernel
theorem dX10_divisor_21 : decode cX10_divisor 21 = .ok (.lneg, 1) := by decide +kernel
theorem dX10_divisor_22 : decode cX10_divisor 22 = .ok (.goto 4, 3) := by decide +kernel
theorem dX10_divisor_25 : decode cX10_divisor 25 = .ok (.lload_n 3, 1) := by decide +kernel
theorem dX10_divisor_26 : decode cX10_divisor 26 = .ok (.lstore 7, 2) := by decide +kernel
theorem dX10_divisor_28 : decode cX10_divisor 28 = .ok (.lload 7, 2) := by decide +kernel
theorem dX10_divisor_30 : decode cX10_divisor 30 = .ok (.lconst 0, 1) := by decide +kernel
theorem dX10_divisor_31 : decode cX10_divisor 31 = .ok (.lcmp, 1) := by decide +kernel
theorem dX10_divisor_32 : decode cX10_divisor 32 = .ok (.ifCond .eq 21, 3) := by decide +kernel
theorem dX10_divisor_35 : decode cX10_divisor 35 = .ok (.lload 5, 2) := by decide +kernel
theorem dX10_divisor_37 : decode cX10_divisor 37 = .ok (.lload 7, 2) := by decide +kernel
theorem dX10_divisor_39 : decode cX10_divisor 39 = .ok (.lrem, 1) := by decide +kernel
theorem dX10_divisor_40 : decode cX10_divisor 40 = .ok (.lstore 9, 2) := by decide +kernel
theorem dX10_divisor_42 : decode cX10_divisor 42 = .ok (.lload 7, 2) := by decide +kernel
theorem dX10_divisor_44 : decode cX10_divisor 44 = .ok (.lstore 5, 2) := by decide +kernel
theorem dX10_divisor_46 : decode cX10_divisor 46 = .ok (.lload 9, 2) := by decide +kernel
theorem dX10_divisor_48 : decode cX10_divisor 48 = .ok (.lstore 7, 2) := by decide +kernel
theorem dX10_divisor_50 : decode cX10_divisor 50 = .ok (.goto (-22), 3) := by decide +kernel
theorem dX10_divisor_53 : decode cX10_divisor 53 = .ok (.lload 5, 2) := by decide +kernel
theorem dX10_divisor_55 : decode cX10_divisor 55 = .ok (.lreturn, 1) := by decide +kernel
set_option maxRecDepth 20000 in
theorem ggX10_lowest_X10_divisor : GoodIn wsX10_lowest wsX10_divisor := goodIn_r _ [5] (by decide +kernel) (by decide +kernel)
set_option maxRecDepth 20000 in
theorem gX10_lowest_X10_divisor : GoodIn wsX10_lowest (wsV RX10 156 RX10 yX10_divisor wsX10_divisor) := goodIn_app (goodIn_of _ (by decide +kernel)) ggX10_lowest_X10_divisor
theorem dX10_lowest_0 : decode cX10_lowest 0 = .ok (.aload_n 0, 1) := by decide +kernel
theorem dX10_lowest_1 : decode cX10_lowest 1 = .ok (.lload_n 1, 1) := by decide +kernel
theorem dX10_lowest_2 : decode cX10_lowest 2 = .ok (.lload_n 3, 1) := by decide +kernel
theorem dX10_lowest_3 : decode cX10_lowest 3 = .ok (.invokevirtual 156, 3) := by decide +kernel
theorem dX10_lowest_6 : decode cX10_lowest 6 = .ok (.lstore 6, 2) := by decide +kernel
theorem dX10_lowest_8 : decode cX10_lowest 8 = .ok (.lload_n 3, 1) := by decide +kernel
theorem dX10_lowest_9 : decode cX10_lowest 9 = .ok (.lconst 0, 1) := by decide +kernel
theorem dX10_lowest_10 : decode cX10_lowest 10 = .ok (.lcmp, 1) := by decide +kernel
theorem dX10_lowest_11 : decode cX10_lowest 11 = .ok (.ifCond .ge 8, 3) := by decide +kernel
theorem dX10_lowest_14 : decode cX10_lowest 14 = .ok (.lload 6, 2) := by decide +kernel
theorem dX10_lowest_16 : decode cX10_lowest 16 = .ok (.lneg, 1) := by decide +kernel
theorem dX10_lowest_17 : decode cX10_lowest 17 = .ok (.lstore 6, 2) := by decide +kernel
theorem dX10_lowest_19 : decode cX10_lowest 19 = .ok (.iload 5, 2) := by decide +kernel
theorem dX10_lowest_21 : decode cX10_lowest 21 = .ok (.ifCond .eq 10, 3) := by decide +kernel
theorem dX10_lowest_24 : decode cX10_lowest 24 = .ok (.lload_n 3, 1) := by decide +kernel
theorem dX10_lowest_25 : decode cX10_lowest 25 = .ok (.lload 6, 2) := by decide +kernel
theorem dX10_lowest_27 : decode cX10_lowest 27 = .ok (.ldiv, 1) := by decide +kernel
theorem dX10_lowest_28 : decode cX10_lowest 28 = .ok (.goto 7, 3) := by decide +kernel
theorem dX10_lowest_31 : decode cX10_lowest 31 = .ok (.lload_n 1, 1) := by decide +kernel
theorem dX10_lowest_32 : decode cX10_lowest 32 = .ok (.lload 6, 2) := by decide +kernel
theorem dX10_lowest_34 : decode cX10_lowest 34 = .ok (.ldiv, 1) := by decide +kernel
theorem dX10_lowest_35 : decode cX10_lowest 35 = .ok (.lreturn, 1) := by decide +kernel
set_option maxRecDepth 20000 in
theorem ggX10_rate_X10_isMark : GoodIn wsX10_rate wsX10_isMark := goodIn_r _ [6, 7, 8, 9, 10, 5, 11, 64, 65, 66, 67, 68, 69, 70, 71, 72, 73, 74, 75, 76, 77, 78, 79, 80, 81, 82, 83, 84, 85, 86, 87, 88, 89, 90, 91, 92, 93, 94, 95, 96] (by decide +kernel) (by decide +kernel)
set_option maxRecDepth 20000 in
theorem gX10_rate_X10_isMark : GoodIn wsX10_rate (wsV RX10 116 RX10 yX10_isMark wsX10_isMark) := goodIn_app (goodIn_of _ (by decide +kernel)) ggX10_rate_X10_isMark
set_option maxRecDepth 20000 in
theorem ggX10_rate_X10_isSide : GoodIn wsX10_rate wsX10_isSide := goodIn_r _ [15] (by decide +kernel) (by decide +kernel)
set_option maxRecDepth 20000 in
theorem gX10_rate_X10_isSide : GoodIn wsX10_rate (wsV RX10 143 RX10 yX10_isSide wsX10_isSide) := goodIn_app (goodIn_of _ (by decide +kernel)) ggX10_rate_X10_isSide
set_option maxRecDepth 20000 in
theorem ggX10_rate_X10_manyOf : GoodIn wsX10_rate wsX10_manyOf := goodIn_r _ [19, 20, 21, 22, 5, 23, 24, 25, 26, 27, 28, 29, 30, 31, 32, 33, 64, 65, 66, 67, 68, 69, 70, 71, 72, 73, 74, 75, 76, 77, 78, 79, 80, 81, 82, 83, 84, 85, 86, 87, 88, 89, 90, 91, 92, 93, 94, 95, 96] (by decide +kernel) (by decide +kernel)
set_option maxRecDepth 20000 in
theorem gX10_rate_X10_manyOf : GoodIn wsX10_rate (wsV RX10 152 RX10 yX10_manyOf wsX10_manyOf) := goodIn_app (goodIn_of _ (by decide +kernel)) ggX10_rate_X10_manyOf
set_option maxRecDepth 20000 in
theorem ggX10_rate_X10_isCleared : GoodIn wsX10_rate wsX10_isCleared := goodIn_r _ [23, 24, 25, 26, 27, 5, 28, 29, 30, 31, 32, 33, 64, 65, 66, 67, 68, 69, 70, 71, 72, 73, 74, 75, 76, 77, 78, 79, 80, 81, 82, 83, 84, 85, 86, 87, 88, 89, 90, 91, 92, 93, 94, 95, 96] (by decide +kernel) (by decide +kernel)
set_option maxRecDepth 20000 in
theorem gX10_rate_X10_isCleared : GoodIn wsX10_rate (wsV RX10 146 RX10 yX10_isCleared wsX10_isCleared) := goodIn_app (goodIn_of _ (by decide +kernel)) ggX10_rate_X10_isCleared
set_option maxRecDepth 20000 in
theorem ggX10_rate_X10_clear : GoodIn wsX10_rate wsX10_clear := goodIn_r _ [37, 38, 39, 33, 40, 41, 42, 5, 43, 44, 45, 46, 47, 25, 26, 27, 28, 48, 49, 50, 51, 52, 53, 54, 55, 24, 64, 65, 66, 67, 68, 69, 70, 71, 72, 73, 74, 75, 76, 77, 78, 79, 80, 81, 82, 83, 84, 85, 86, 87, 88, 89, 90, 91, 92, 93, 94, 95, 96] (by decide +kernel) (by decide +kernel)
set_option maxRecDepth 20000 in
theorem gX10_rate_X10_clear : GoodIn wsX10_rate (wsV RX10 149 RX10 yX10_clear wsX10_clear) := goodIn_app (goodIn_of _ (by decide +kernel)) ggX10_rate_X10_clear
set_option maxRecDepth 20000 in
theorem ggX10_rate_X10_lowest : GoodIn wsX10_rate wsX10_lowest := goodIn_r _ [59, 60, 61, 62, 5, 63] (by decide +kernel) (by decide +kernel)
set_option maxRecDepth 20000 in
theorem gX10_rate_X10_lowest : GoodIn wsX10_rate (wsV RX10 160 RX10 yX10_lowest wsX10_lowest) := goodIn_app (goodIn_of _ (by decide +kernel)) ggX10_rate_X10_lowest
theorem dX10_rate_0 : decode cX10_rate 0 = .ok (.aload_n 0, 1) := by decide +kernel
theorem dX10_rate_1 : decode cX10_rate 1 = .ok (.aload_n 0, 1) := by decide +kernel
theorem dX10_rate_2 : decode cX10_rate 2 = .ok (.iload_n 1, 1) := by decide +kernel
theorem dX10_rate_3 : decode cX10_rate 3 = .ok (.invokevirtual 116, 3) := by decide +kernel
theorem dX10_rate_6 : decode cX10_rate 6 = .ok (.ifCond .eq 11, 3) := by decide +kernel
theorem dX10_rate_9 : decode cX10_rate 9 = .ok (.aload_n 0, 1) := by decide +kernel
theorem dX10_rate_10 : decode cX10_rate 10 = .ok (.iload_n 2, 1) := by decide +kernel
theorem dX10_rate_11 : decode cX10_rate 11 = .ok (.invokevirtual 143, 3) := by decide +kernel
theorem dX10_rate_14 : decode cX10_rate 14 = .ok (.ifCond .ne 7, 3) := by decide +kernel
theorem dX10_rate_17 : decode cX10_rate 17 = .ok (.iconst 1, 1) := by decide +kernel
theorem dX10_rate_18 : decode cX10_rate 18 = .ok (.goto 17, 3) := by decide +kernel
theorem dX10_rate_21 : decode cX10_rate 21 = .ok (.aload_n 0, 1) := by decide +kernel
theorem dX10_rate_22 : decode cX10_rate 22 = .ok (.iload_n 1, 1) := by decide +kernel
theorem dX10_rate_23 : decode cX10_rate 23 = .ok (.invokevirtual 152, 3) := by decide +kernel
theorem dX10_rate_26 : decode cX10_rate 26 = .ok (.iconst 2, 1) := by decide +kernel
theorem dX10_rate_27 : decode cX10_rate 27 = .ok (.if_icmp .ge 7, 3) := by decide +kernel
theorem dX10_rate_30 : decode cX10_rate 30 = .ok (.iconst 2, 1) := by decide +kernel
theorem dX10_rate_31 : decode cX10_rate 31 = .ok (.goto 4, 3) := by decide +kernel
theorem dX10_rate_34 : decode cX10_rate 34 = .ok (.iconst 0, 1) := by decide +kernel
theorem dX10_rate_35 : decode cX10_rate 35 = .ok (.putfield 7, 3) := by decide +kernel
theorem dX10_rate_38 : decode cX10_rate 38 = .ok (.aload_n 0, 1) := by decide +kernel
theorem dX10_rate_39 : decode cX10_rate 39 = .ok (.getfield 7, 3) := by decide +kernel
theorem dX10_rate_42 : decode cX10_rate 42 = .ok (.ifCond .le 5, 3) := by decide +kernel
theorem dX10_rate_45 : decode cX10_rate 45 = .ok (.lconst 0, 1) := by decide +kernel
theorem dX10_rate_46 : decode cX10_rate 46 = .ok (.lreturn, 1) := by decide +kernel
theorem dX10_rate_47 : decode cX10_rate 47 = .ok (.lconst 0, 1) := by decide +kernel
theorem dX10_rate_48 : decode cX10_rate 48 = .ok (.lstore 4, 2) := by decide +kernel
theorem dX10_rate_50 : decode cX10_rate 50 = .ok (.lconst 0, 1) := by decide +kernel
theorem dX10_rate_51 : decode cX10_rate 51 = .ok (.lstore 6, 2) := by decide +kernel
theorem dX10_rate_53 : decode cX10_rate 53 = .ok (.lconst 0, 1) := by decide +kernel
theorem dX10_rate_54 : decode cX10_rate 54 = .ok (.lstore 8, 2) := by decide +kernel
theorem dX10_rate_56 : decode cX10_rate 56 = .ok (.lconst 0, 1) := by decide +kernel
theorem dX10_rate_57 : decode cX10_rate 57 = .ok (.lstore 10, 2) := by decide +kernel
theorem dX10_rate_59 : decode cX10_rate 59 = .ok (.lconst 0, 1) := by decide +kernel
theorem dX10_rate_60 : decode cX10_rate 60 = .ok (.lstore 12, 2) := by decide +kernel
theorem dX10_rate_62 : decode cX10_rate 62 = .ok (.iconst 0, 1) := by decide +kernel
theorem dX10_rate_63 : decode cX10_rate 63 = .ok (.istore 14, 2) := by decide +kernel
theorem dX10_rate_65 : decode cX10_rate 65 = .ok (.iload 14, 2) := by decide +kernel
theorem dX10_rate_67 : decode cX10_rate 67 = .ok (.bipush 40, 2) := by decide +kernel
theorem dX10_rate_69 : decode cX10_rate 69 = .ok (.if_icmp .ge 76, 3) := by decide +kernel
theorem dX10_rate_72 : decode cX10_rate 72 = .ok (.aload_n 0, 1) := by decide +kernel
theorem dX10_rate_73 : decode cX10_rate 73 = .ok (.iload_n 1, 1) := by decide +kernel
theorem dX10_rate_74 : decode cX10_rate 74 = .ok (.iload 14, 2) := by decide +kernel
theorem dX10_rate_76 : decode cX10_rate 76 = .ok (.invokevirtual 146, 3) := by decide +kernel
theorem dX10_rate_79 : decode cX10_rate 79 = .ok (.ifCond .ne 6, 3) := by decide +kernel
theorem dX10_rate_82 : decode cX10_rate 82 = .ok (.goto 57, 3) := by decide +kernel
theorem dX10_rate_85 : decode cX10_rate 85 = .ok (.aload_n 0, 1) := by decide +kernel
theorem dX10_rate_86 : decode cX10_rate 86 = .ok (.iload_n 1, 1) := by decide +kernel
theorem dX10_rate_87 : decode cX10_rate 87 = .ok (.iload 14, 2) := by decide +kernel
theorem dX10_rate_89 : decode cX10_rate 89 = .ok (.iload_n 2, 1) := by decide +kernel
theorem dX10_rate_90 : decode cX10_rate 90 = .ok (.invokevirtual 149, 3) := by decide +kernel
theorem dX10_rate_93 : decode cX10_rate 93 = .ok (.lstore 15, 2) := by decide +kernel
theorem dX10_rate_95 : decode cX10_rate 95 = .ok (.lload 4, 2) := by decide +kernel
theorem dX10_rate_97 : decode cX10_rate 97 = .ok (.lconst 1, 1) := by decide +kernel
theorem dX10_rate_98 : decode cX10_rate 98 = .ok (.ladd, 1) := by decide +kernel
theorem dX10_rate_99 : decode cX10_rate 99 = .ok (.lstore 4, 2) := by decide +kernel
theorem dX10_rate_101 : decode cX10_rate 101 = .ok (.lload 6, 2) := by decide +kernel
theorem dX10_rate_103 : decode cX10_rate 103 = .ok (.iload 14, 2) := by decide +kernel
theorem dX10_rate_105 : decode cX10_rate 105 = .ok (.i2l, 1) := by decide +kernel
theorem dX10_rate_106 : decode cX10_rate 106 = .ok (.ladd, 1) := by decide +kernel
theorem dX10_rate_107 : decode cX10_rate 107 = .ok (.lstore 6, 2) := by decide +kernel
theorem dX10_rate_109 : decode cX10_rate 109 = .ok (.lload 8, 2) := by decide +kernel
theorem dX10_rate_111 : decode cX10_rate 111 = .ok (.lload 15, 2) := by decide +kernel
theorem dX10_rate_113 : decode cX10_rate 113 = .ok (.ladd, 1) := by decide +kernel
theorem dX10_rate_114 : decode cX10_rate 114 = .ok (.lstore 8, 2) := by decide +kernel
theorem dX10_rate_116 : decode cX10_rate 116 = .ok (.lload 10, 2) := by decide +kernel
theorem dX10_rate_118 : decode cX10_rate 118 = .ok (.iload 14, 2) := by decide +kernel
theorem dX10_rate_120 : decode cX10_rate 120 = .ok (.i2l, 1) := by decide +kernel
theorem dX10_rate_121 : decode cX10_rate 121 = .ok (.iload 14, 2) := by decide +kernel
theorem dX10_rate_123 : decode cX10_rate 123 = .ok (.i2l, 1) := by decide +kernel
theorem dX10_rate_124 : decode cX10_rate 124 = .ok (.lmul, 1) := by decide +kernel
theorem dX10_rate_125 : decode cX10_rate 125 = .ok (.ladd, 1) := by decide +kernel
theorem dX10_rate_126 : decode cX10_rate 126 = .ok (.lstore 10, 2) := by decide +kernel
theorem dX10_rate_128 : decode cX10_rate 128 = .ok (.lload 12, 2) := by decide +kernel
theorem dX10_rate_130 : decode cX10_rate 130 = .ok (.iload 14, 2) := by decide +kernel
theorem dX10_rate_132 : decode cX10_rate 132 = .ok (.i2l, 1) := by decide +kernel
theorem dX10_rate_133 : decode cX10_rate 133 = .ok (.lload 15, 2) := by decide +kernel
theorem dX10_rate_135 : decode cX10_rate 135 = .ok (.lmul, 1) := by decide +kernel
theorem dX10_rate_136 : decode cX10_rate 136 = .ok (.ladd, 1) := by decide +kernel
theorem dX10_rate_137 : decode cX10_rate 137 = .ok (.lstore 12, 2) := by decide +kernel
theorem dX10_rate_139 : decode cX10_rate 139 = .ok (.iinc 14 1, 3) := by decide +kernel
theorem dX10_rate_142 : decode cX10_rate 142 = .ok (.goto (-77), 3) := by decide +kernel
theorem dX10_rate_145 : decode cX10_rate 145 = .ok (.aload_n 0, 1) := by decide +kernel
theorem dX10_rate_146 : decode cX10_rate 146 = .ok (.lload 4, 2) := by decide +kernel
theorem dX10_rate_148 : decode cX10_rate 148 = .ok (.lload 12, 2) := by decide +kernel
theorem dX10_rate_150 : decode cX10_rate 150 = .ok (.lmul, 1) := by decide +kernel
theorem dX10_rate_151 : decode cX10_rate 151 = .ok (.lload 6, 2) := by decide +kernel
theorem dX10_rate_153 : decode cX10_rate 153 = .ok (.lload 8, 2) := by decide +kernel
theorem dX10_rate_155 : decode cX10_rate 155 = .ok (.lmul, 1) := by decide +kernel
theorem dX10_rate_156 : decode cX10_rate 156 = .ok (.lsub, 1) := by decide +kernel
theorem dX10_rate_157 : decode cX10_rate 157 = .ok (.lload 4, 2) := by decide +kernel
theorem dX10_rate_159 : decode cX10_rate 159 = .ok (.lload 10, 2) := by decide +kernel
theorem dX10_rate_161 : decode cX10_rate 161 = .ok (.lmul, 1) := by decide +kernel
theorem dX10_rate_162 : decode cX10_rate 162 = .ok (.lload 6, 2) := by decide +kernel
theorem dX10_rate_164 : decode cX10_rate 164 = .ok (.lload 6, 2) := by decide +kernel
theorem dX10_rate_166 : decode cX10_rate 166 = .ok (.lmul, 1) := by decide +kernel
theorem dX10_rate_167 : decode cX10_rate 167 = .ok (.lsub, 1) := by decide +kernel
theorem dX10_rate_168 : decode cX10_rate 168 = .ok (.iload_n 3, 1) := by decide +kernel
theorem dX10_rate_169 : decode cX10_rate 169 = .ok (.invokevirtual 160, 3) := by decide +kernel
theorem dX10_rate_172 : decode cX10_rate 172 = .ok (.lreturn, 1) := by decide +kernel
set_option maxRecDepth 20000 in
theorem ggX10_jump_X10_isMark : GoodIn wsX10_jump wsX10_isMark := goodIn_r _ [5, 6, 7, 8, 9, 4, 10, 55, 56, 57, 58, 59, 60, 61, 62, 63, 64, 65, 66, 67, 68, 69, 70, 71, 72, 73, 74, 75, 76, 77, 78, 79, 80, 81, 82, 83, 84, 85, 86, 87] (by decide +kernel) (by decide +kernel)
set_option maxRecDepth 20000 in
theorem gX10_jump_X10_isMark : GoodIn wsX10_jump (wsV RX10 116 RX10 yX10_isMark wsX10_isMark) := goodIn_app (goodIn_of _ (by decide +kernel)) ggX10_jump_X10_isMark
set_option maxRecDepth 20000 in
theorem ggX10_jump_X10_isSide : GoodIn wsX10_jump wsX10_isSide := goodIn_r _ [14] (by decide +kernel) (by decide +kernel)
set_option maxRecDepth 20000 in
theorem gX10_jump_X10_isSide : GoodIn wsX10_jump (wsV RX10 143 RX10 yX10_isSide wsX10_isSide) := goodIn_app (goodIn_of _ (by decide +kernel)) ggX10_jump_X10_isSide
set_option maxRecDepth 20000 in
theorem ggX10_jump_X10_manyOf : GoodIn wsX10_jump wsX10_manyOf := goodIn_r _ [18, 19, 20, 21, 4, 22, 23, 24, 25, 26, 27, 28, 29, 30, 31, 32, 55, 56, 57, 58, 59, 60, 61, 62, 63, 64, 65, 66, 67, 68, 69, 70, 71, 72, 73, 74, 75, 76, 77, 78, 79, 80, 81, 82, 83, 84, 85, 86, 87] (by decide +kernel) (by decide +kernel)
set_option maxRecDepth 20000 in
theorem gX10_jump_X10_manyOf : GoodIn wsX10_jump (wsV RX10 152 RX10 yX10_manyOf wsX10_manyOf) := goodIn_app (goodIn_of _ (by decide +kernel)) ggX10_jump_X10_manyOf
set_option maxRecDepth 20000 in
theorem ggX10_jump_X10_isCleared : GoodIn wsX10_jump wsX10_isCleared := goodIn_r _ [22, 23, 24, 25, 26, 4, 27, 28, 29, 30, 31, 32, 55, 56, 57, 58, 59, 60, 61, 62, 63, 64, 65, 66, 67, 68, 69, 70, 71, 72, 73, 74, 75, 76, 77, 78, 79, 80, 81, 82, 83, 84, 85, 86, 87] (by decide +kernel) (by decide +kernel)
set_option maxRecDepth 20000 in
theorem gX10_jump_X10_isCleared : GoodIn wsX10_jump (wsV RX10 146 RX10 yX10_isCleared wsX10_isCleared) := goodIn_app (goodIn_of _ (by decide +kernel)) ggX10_jump_X10_isCleared
set_option maxRecDepth 20000 in
theorem ggX10_jump_X10_clear : GoodIn wsX10_jump wsX10_clear := goodIn_r _ [36, 37, 38, 32, 39, 40, 41, 4, 42, 43, 44, 45, 46, 24, 25, 26, 27, 47, 48, 49, 50, 51, 52, 53, 54, 23, 55, 56, 57, 58, 59, 60, 61, 62, 63, 64, 65, 66, 67, 68, 69, 70, 71, 72, 73, 74, 75, 76, 77, 78, 79, 80, 81, 82, 83, 84, 85, 86, 87] (by decide +kernel) (by decide +kernel)
set_option maxRecDepth 20000 in
theorem gX10_jump_X10_clear : GoodIn wsX10_jump (wsV RX10 149 RX10 yX10_clear wsX10_clear) := goodIn_app (goodIn_of _ (by decide +kernel)) ggX10_jump_X10_clear
theorem dX10_jump_0 : decode cX10_jump 0 = .ok (.aload_n 0, 1) := by decide +kernel
theorem dX10_jump_1 : decode cX10_jump 1 = .ok (.iload_n 1, 1) := by decide +kernel
theorem dX10_jump_2 : decode cX10_jump 2 = .ok (.invokevirtual 116, 3) := by decide +kernel
theorem dX10_jump_5 : decode cX10_jump 5 = .ok (.ifCond .eq 11, 3) := by decide +kernel
theorem dX10_jump_8 : decode cX10_jump 8 = .ok (.aload_n 0, 1) := by decide +kernel
theorem dX10_jump_9 : decode cX10_jump 9 = .ok (.iload_n 2, 1) := by decide +kernel
theorem dX10_jump_10 : decode cX10_jump 10 = .ok (.invokevirtual 143, 3) := by decide +kernel
theorem dX10_jump_13 : decode cX10_jump 13 = .ok (.ifCond .ne 5, 3) := by decide +kernel
theorem dX10_jump_16 : decode cX10_jump 16 = .ok (.iconst (-1), 1) := by decide +kernel
theorem dX10_jump_17 : decode cX10_jump 17 = .ok (.ireturn, 1) := by decide +kernel
theorem dX10_jump_18 : decode cX10_jump 18 = .ok (.aload_n 0, 1) := by decide +kernel
theorem dX10_jump_19 : decode cX10_jump 19 = .ok (.iload_n 1, 1) := by decide +kernel
theorem dX10_jump_20 : decode cX10_jump 20 = .ok (.invokevirtual 152, 3) := by decide +kernel
theorem dX10_jump_23 : decode cX10_jump 23 = .ok (.istore_n 3, 1) := by decide +kernel
theorem dX10_jump_24 : decode cX10_jump 24 = .ok (.lconst 0, 1) := by decide +kernel
theorem dX10_jump_25 : decode cX10_jump 25 = .ok (.lstore 4, 2) := by decide +kernel
theorem dX10_jump_27 : decode cX10_jump 27 = .ok (.iconst 0, 1) := by decide +kernel
theorem dX10_jump_28 : decode cX10_jump 28 = .ok (.istore 6, 2) := by decide +kernel
theorem dX10_jump_30 : decode cX10_jump 30 = .ok (.iload 6, 2) := by decide +kernel
theorem dX10_jump_32 : decode cX10_jump 32 = .ok (.bipush 40, 2) := by decide +kernel
theorem dX10_jump_34 : decode cX10_jump 34 = .ok (.if_icmp .ge 36, 3) := by decide +kernel
theorem dX10_jump_37 : decode cX10_jump 37 = .ok (.lload 4, 2) := by decide +kernel
theorem dX10_jump_39 : decode cX10_jump 39 = .ok (.aload_n 0, 1) := by decide +kernel
theorem dX10_jump_40 : decode cX10_jump 40 = .ok (.iload_n 1, 1) := by decide +kernel
theorem dX10_jump_41 : decode cX10_jump 41 = .ok (.iload 6, 2) := by decide +kernel
theorem dX10_jump_43 : decode cX10_jump 43 = .ok (.invokevirtual 146, 3) := by decide +kernel
theorem dX10_jump_46 : decode cX10_jump 46 = .ok (.ifCond .eq 14, 3) := by decide +kernel
theorem dX10_jump_49 : decode cX10_jump 49 = .ok (.aload_n 0, 1) := by decide +kernel
theorem dX10_jump_50 : decode cX10_jump 50 = .ok (.iload_n 1, 1) := by decide +kernel
theorem dX10_jump_51 : decode cX10_jump 51 = .ok (.iload 6, 2) := by decide +kernel
theorem dX10_jump_53 : decode cX10_jump 53 = .ok (.iload_n 2, 1) := by decide +kernel
theorem dX10_jump_54 : decode cX10_jump 54 = .ok (.invokevirtual 149, 3) := by decide +kernel
theorem dX10_jump_57 : decode cX10_jump 57 = .ok (.goto 4, 3) := by decide +kernel
theorem dX10_jump_60 : decode cX10_jump 60 = .ok (.lconst 0, 1) := by decide +kernel
theorem dX10_jump_61 : decode cX10_jump 61 = .ok (.ladd, 1) := by decide +kernel
theorem dX10_jump_62 : decode cX10_jump 62 = .ok (.lstore 4, 2) := by decide +kernel
theorem dX10_jump_64 : decode cX10_jump 64 = .ok (.iinc 6 1, 3) := by decide +kernel
theorem dX10_jump_67 : decode cX10_jump 67 = .ok (.goto (-37), 3) := by decide +kernel
theorem dX10_jump_70 : decode cX10_jump 70 = .ok (.bipush (-4), 2) := by decide +kernel
theorem dX10_jump_72 : decode cX10_jump 72 = .ok (.istore 6, 2) := by decide +kernel
theorem dX10_jump_74 : decode cX10_jump 74 = .ok (.lconst 0, 1) := by decide +kernel
theorem dX10_jump_75 : decode cX10_jump 75 = .ok (.lstore 7, 2) := by decide +kernel
theorem dX10_jump_77 : decode cX10_jump 77 = .ok (.lconst 1, 1) := by decide +kernel
theorem dX10_jump_78 : decode cX10_jump 78 = .ok (.lstore 9, 2) := by decide +kernel
theorem dX10_jump_80 : decode cX10_jump 80 = .ok (.lconst 0, 1) := by decide +kernel
theorem dX10_jump_81 : decode cX10_jump 81 = .ok (.lstore 11, 2) := by decide +kernel
theorem dX10_jump_83 : decode cX10_jump 83 = .ok (.iconst 0, 1) := by decide +kernel
theorem dX10_jump_84 : decode cX10_jump 84 = .ok (.istore 13, 2) := by decide +kernel
theorem dX10_jump_86 : decode cX10_jump 86 = .ok (.iconst 0, 1) := by decide +kernel
theorem dX10_jump_87 : decode cX10_jump 87 = .ok (.istore 14, 2) := by decide +kernel
theorem dX10_jump_89 : decode cX10_jump 89 = .ok (.iload 14, 2) := by decide +kernel
theorem dX10_jump_91 : decode cX10_jump 91 = .ok (.bipush 40, 2) := by decide +kernel
theorem dX10_jump_93 : decode cX10_jump 93 = .ok (.if_icmp .ge 131, 3) := by decide +kernel
theorem dX10_jump_96 : decode cX10_jump 96 = .ok (.aload_n 0, 1) := by decide +kernel
theorem dX10_jump_97 : decode cX10_jump 97 = .ok (.iload_n 1, 1) := by decide +kernel
theorem dX10_jump_98 : decode cX10_jump 98 = .ok (.iload 14, 2) := by decide +kernel
theorem dX10_jump_100 : decode cX10_jump 100 = .ok (.invokevirtual 146, 3) := by decide +kernel
theorem dX10_jump_103 : decode cX10_jump 103 = .ok (.ifCond .ne 6, 3) := by decide +kernel
theorem dX10_jump_106 : decode cX10_jump 106 = .ok (.goto 112, 3) := by decide +kernel
theorem dX10_jump_109 : decode cX10_jump 109 = .ok (.iload 13, 2) := by decide +kernel
theorem dX10_jump_111 : decode cX10_jump 111 = .ok (.iconst 2, 1) := by decide +kernel
theorem dX10_jump_112 : decode cX10_jump 112 = .ok (.if_icmp .lt 90, 3) := by decide +kernel
theorem dX10_jump_115 : decode cX10_jump 115 = .ok (.iload_n 3, 1) := by decide +kernel
theorem dX10_jump_116 : decode cX10_jump 116 = .ok (.iload 13, 2) := by decide +kernel
theorem dX10_jump_118 : decode cX10_jump 118 = .ok (.isub, 1) := by decide +kernel
theorem dX10_jump_119 : decode cX10_jump 119 = .ok (.iconst 2, 1) := by decide +kernel
theorem dX10_jump_120 : decode cX10_jump 120 = .ok (.if_icmp .lt 82, 3) := by decide +kernel
theorem dX10_jump_123 : decode cX10_jump 123 = .ok (.lload 11, 2) := by decide +kernel
theorem dX10_jump_125 : decode cX10_jump 125 = .ok (.iload_n 3, 1) := by decide +kernel
theorem dX10_jump_126 : decode cX10_jump 126 = .ok (.iload 13, 2) := by decide +kernel
theorem dX10_jump_128 : decode cX10_jump 128 = .ok (.isub, 1) := by decide +kernel
theorem dX10_jump_129 : decode cX10_jump 129 = .ok (.i2l, 1) := by decide +kernel
theorem dX10_jump_130 : decode cX10_jump 130 = .ok (.lmul, 1) := by decide +kernel
theorem dX10_jump_131 : decode cX10_jump 131 = .ok (.lload 4, 2) := by decide +kernel
theorem dX10_jump_133 : decode cX10_jump 133 = .ok (.lload 11, 2) := by decide +kernel
theorem dX10_jump_135 : decode cX10_jump 135 = .ok (.lsub, 1) := by decide +kernel
theorem dX10_jump_136 : decode cX10_jump 136 = .ok (.iload 13, 2) := by decide +kernel
theorem dX10_jump_138 : decode cX10_jump 138 = .ok (.i2l, 1) := by decide +kernel
theorem dX10_jump_139 : decode cX10_jump 139 = .ok (.lmul, 1) := by decide +kernel
theorem dX10_jump_140 : decode cX10_jump 140 = .ok (.lsub, 1) := by decide +kernel
theorem dX10_jump_141 : decode cX10_jump 141 = .ok (.lstore 15, 2) := by decide +kernel
theorem dX10_jump_143 : decode cX10_jump 143 = .ok (.lload 15, 2) := by decide +kernel
theorem dX10_jump_145 : decode cX10_jump 145 = .ok (.lconst 0, 1) := by decide +kernel
theorem dX10_jump_146 : decode cX10_jump 146 = .ok (.lcmp, 1) := by decide +kernel
theorem dX10_jump_147 : decode cX10_jump 147 = .ok (.ifCond .ge 9, 3) := by decide +kernel
theorem dX10_jump_150 : decode cX10_jump 150 = .ok (.lload 15, 2) := by decide +kernel
theorem dX10_jump_152 : decode cX10_jump 152 = .ok (.lneg, 1) := by decide +kernel
theorem dX10_jump_153 : decode cX10_jump 153 = .ok (.goto 5, 3) := by decide +kernel
theorem dX10_jump_156 : decode cX10_jump 156 = .ok (.lload 15, 2) := by decide +kernel
theorem dX10_jump_158 : decode cX10_jump 158 = .ok (.lstore 15, 2) := by decide +kernel
theorem dX10_jump_160 : decode cX10_jump 160 = .ok (.iload 13, 2) := by decide +kernel
theorem dX10_jump_162 : decode cX10_jump 162 = .ok (.i2l, 1) := by decide +kernel
theorem dX10_jump_163 : decode cX10_jump 163 = .ok (.iload_n 3, 1) := by decide +kernel
theorem dX10_jump_164 : decode cX10_jump 164 = .ok (.iload 13, 2) := by decide +kernel
theorem dX10_jump_166 : decode cX10_jump 166 = .ok (.isub, 1) := by decide +kernel
theorem dX10_jump_167 : decode cX10_jump 167 = .ok (.i2l, 1) := by decide +kernel
theorem dX10_jump_168 : decode cX10_jump 168 = .ok (.lmul, 1) := by decide +kernel
theorem dX10_jump_169 : decode cX10_jump 169 = .ok (.lstore 17, 2) := by decide +kernel
theorem dX10_jump_171 : decode cX10_jump 171 = .ok (.iload 6, 2) := by decide +kernel
theorem dX10_jump_173 : decode cX10_jump 173 = .ok (.ifCond .lt 17, 3) := by decide +kernel
theorem dX10_jump_176 : decode cX10_jump 176 = .ok (.lload 15, 2) := by decide +kernel
theorem dX10_jump_178 : decode cX10_jump 178 = .ok (.lload 9, 2) := by decide +kernel
theorem dX10_jump_180 : decode cX10_jump 180 = .ok (.lmul, 1) := by decide +kernel
theorem dX10_jump_181 : decode cX10_jump 181 = .ok (.lload 7, 2) := by decide +kernel
theorem dX10_jump_183 : decode cX10_jump 183 = .ok (.lload 17, 2) := by decide +kernel
theorem dX10_jump_185 : decode cX10_jump 185 = .ok (.lmul, 1) := by decide +kernel
theorem dX10_jump_186 : decode cX10_jump 186 = .ok (.lcmp, 1) := by decide +kernel
theorem dX10_jump_187 : decode cX10_jump 187 = .ok (.ifCond .le 15, 3) := by decide +kernel
theorem dX10_jump_190 : decode cX10_jump 190 = .ok (.iload 14, 2) := by decide +kernel
theorem dX10_jump_192 : decode cX10_jump 192 = .ok (.istore 6, 2) := by decide +kernel
theorem dX10_jump_194 : decode cX10_jump 194 = .ok (.lload 15, 2) := by decide +kernel
theorem dX10_jump_196 : decode cX10_jump 196 = .ok (.lstore 7, 2) := by decide +kernel
theorem dX10_jump_198 : decode cX10_jump 198 = .ok (.lload 17, 2) := by decide +kernel
theorem dX10_jump_200 : decode cX10_jump 200 = .ok (.lstore 9, 2) := by decide +kernel
theorem dX10_jump_202 : decode cX10_jump 202 = .ok (.lload 11, 2) := by decide +kernel
theorem dX10_jump_204 : decode cX10_jump 204 = .ok (.aload_n 0, 1) := by decide +kernel
theorem dX10_jump_205 : decode cX10_jump 205 = .ok (.iload_n 1, 1) := by decide +kernel
theorem dX10_jump_206 : decode cX10_jump 206 = .ok (.iload 14, 2) := by decide +kernel
theorem dX10_jump_208 : decode cX10_jump 208 = .ok (.iload_n 2, 1) := by decide +kernel
theorem dX10_jump_209 : decode cX10_jump 209 = .ok (.invokevirtual 149, 3) := by decide +kernel
theorem dX10_jump_212 : decode cX10_jump 212 = .ok (.ladd, 1) := by decide +kernel
theorem dX10_jump_213 : decode cX10_jump 213 = .ok (.lstore 11, 2) := by decide +kernel
theorem dX10_jump_215 : decode cX10_jump 215 = .ok (.iinc 13 1, 3) := by decide +kernel
theorem dX10_jump_218 : decode cX10_jump 218 = .ok (.iinc 14 1, 3) := by decide +kernel
theorem dX10_jump_221 : decode cX10_jump 221 = .ok (.goto (-132), 3) := by decide +kernel
theorem dX10_jump_224 : decode cX10_jump 224 = .ok (.iload 6, 2) := by decide +kernel
theorem dX10_jump_226 : decode cX10_jump 226 = .ok (.ireturn, 1) := by decide +kernel
set_option maxRecDepth 20000 in
theorem ggX10_firstOf_X10_isCleared : GoodIn wsX10_firstOf wsX10_isCleared := goodIn_r _ [5, 6, 7, 8, 9, 4, 10, 11, 12, 13, 14, 15, 38, 39, 40, 41, 42, 43, 44, 45, 46, 47, 48, 49, 50, 51, 52, 53, 54, 55, 56, 57, 58, 59, 60, 61, 62, 63, 64, 65, 66, 67, 68, 69, 70] (by decide +kernel) (by decide +kernel)
set_option maxRecDepth 20000 in
theorem gX10_firstOf_X10_isCleared : GoodIn wsX10_firstOf (wsV RX10 146 RX10 yX10_isCleared wsX10_isCleared) := goodIn_app (goodIn_of _ (by decide +kernel)) ggX10_firstOf_X10_isCleared
set_option maxRecDepth 20000 in
theorem ggX10_firstOf_X10_clear : GoodIn wsX10_firstOf wsX10_clear := goodIn_r _ [19, 20, 21, 15, 22, 23, 24, 4, 25, 26, 27, 28, 29, 7, 8, 9, 10, 30, 31, 32, 33, 34, 35, 36, 37, 6, 38, 39, 40, 41, 42, 43, 44, 45, 46, 47, 48, 49, 50, 51, 52, 53, 54, 55, 56, 57, 58, 59, 60, 61, 62, 63, 64, 65, 66, 67, 68, 69, 70] (by decide +kernel) (by decide +kernel)
set_option maxRecDepth 20000 in
theorem gX10_firstOf_X10_clear : GoodIn wsX10_firstOf (wsV RX10 149 RX10 yX10_clear wsX10_clear) := goodIn_app (goodIn_of _ (by decide +kernel)) ggX10_firstOf_X10_clear
theorem dX10_firstOf_0 : decode cX10_firstOf 0 = .ok (.iconst 0, 1) := by decide +kernel
theorem dX10_firstOf_1 : decode cX10_firstOf 1 = .ok (.istore_n 3, 1) := by decide +kernel
theorem dX10_firstOf_2 : decode cX10_firstOf 2 = .ok (.aload_n 0, 1) := by decide +kernel
theorem dX10_firstOf_3 : decode cX10_firstOf 3 = .ok (.iload_n 1, 1) := by decide +kernel
theorem dX10_firstOf_4 : decode cX10_firstOf 4 = .ok (.iload_n 3, 1) := by decide +kernel
theorem dX10_firstOf_5 : decode cX10_firstOf 5 = .ok (.invokevirtual 146, 3) := by decide +kernel
theorem dX10_firstOf_8 : decode cX10_firstOf 8 = .ok (.ifCond .ne 9, 3) := by decide +kernel
theorem dX10_firstOf_11 : decode cX10_firstOf 11 = .ok (.iinc 3 1, 3) := by decide +kernel
theorem dX10_firstOf_14 : decode cX10_firstOf 14 = .ok (.goto (-12), 3) := by decide +kernel
theorem dX10_firstOf_17 : decode cX10_firstOf 17 = .ok (.aload_n 0, 1) := by decide +kernel
theorem dX10_firstOf_18 : decode cX10_firstOf 18 = .ok (.iload_n 1, 1) := by decide +kernel
theorem dX10_firstOf_19 : decode cX10_firstOf 19 = .ok (.iload_n 3, 1) := by decide +kernel
theorem dX10_firstOf_20 : decode cX10_firstOf 20 = .ok (.iload_n 2, 1) := by decide +kernel
theorem dX10_firstOf_21 : decode cX10_firstOf 21 = .ok (.invokevirtual 149, 3) := by decide +kernel
theorem dX10_firstOf_24 : decode cX10_firstOf 24 = .ok (.lreturn, 1) := by decide +kernel
set_option maxRecDepth 20000 in
theorem ggX10_common_X10_isEpoch : GoodIn wsX10_common wsX10_isEpoch := goodIn_r _ [7, 8, 9, 10, 6, 11] (by decide +kernel) (by decide +kernel)
set_option maxRecDepth 20000 in
theorem gX10_common_X10_isEpoch : GoodIn wsX10_common (wsV RX10 120 RX10 yX10_isEpoch wsX10_isEpoch) := goodIn_app (goodIn_of _ (by decide +kernel)) ggX10_common_X10_isEpoch
set_option maxRecDepth 20000 in
theorem ggX10_common_X10_isSide : GoodIn wsX10_common wsX10_isSide := goodIn_r _ [15] (by decide +kernel) (by decide +kernel)
set_option maxRecDepth 20000 in
theorem gX10_common_X10_isSide : GoodIn wsX10_common (wsV RX10 143 RX10 yX10_isSide wsX10_isSide) := goodIn_app (goodIn_of _ (by decide +kernel)) ggX10_common_X10_isSide
set_option maxRecDepth 20000 in
theorem ggX10_common_X10_isCleared : GoodIn wsX10_common wsX10_isCleared := goodIn_r _ [19, 20, 21, 22, 23, 6, 24, 25, 26, 27, 28, 29, 56, 57, 58, 59, 60, 61, 62, 63, 64, 65, 66, 67, 68, 69, 70, 71, 72, 73, 74, 75, 76, 77, 78, 79, 80, 81, 82, 83, 84, 85, 86, 87, 88] (by decide +kernel) (by decide +kernel)
set_option maxRecDepth 20000 in
theorem gX10_common_X10_isCleared : GoodIn wsX10_common (wsV RX10 146 RX10 yX10_isCleared wsX10_isCleared) := goodIn_app (goodIn_of _ (by decide +kernel)) ggX10_common_X10_isCleared
set_option maxRecDepth 20000 in
theorem ggX10_common_X10_clear : GoodIn wsX10_common wsX10_clear := goodIn_r _ [33, 34, 35, 29, 36, 37, 38, 6, 39, 40, 41, 42, 43, 21, 22, 23, 24, 44, 45, 46, 47, 48, 49, 50, 51, 20, 56, 57, 58, 59, 60, 61, 62, 63, 64, 65, 66, 67, 68, 69, 70, 71, 72, 73, 74, 75, 76, 77, 78, 79, 80, 81, 82, 83, 84, 85, 86, 87, 88] (by decide +kernel) (by decide +kernel)
set_option maxRecDepth 20000 in
theorem gX10_common_X10_clear : GoodIn wsX10_common (wsV RX10 149 RX10 yX10_clear wsX10_clear) := goodIn_app (goodIn_of _ (by decide +kernel)) ggX10_common_X10_clear
set_option maxRecDepth 20000 in
theorem ggX10_common_X10_firstOf : GoodIn wsX10_common wsX10_firstOf := goodIn_r _ [55, 16, 17, 18, 6, 19, 20, 21, 22, 23, 24, 25, 26, 27, 28, 29, 30, 31, 32, 33, 34, 35, 36, 37, 38, 39, 40, 41, 42, 43, 44, 45, 46, 47, 48, 49, 50, 51, 56, 57, 58, 59, 60, 61, 62, 63, 64, 65, 66, 67, 68, 69, 70, 71, 72, 73, 74, 75, 76, 77, 78, 79, 80, 81, 82, 83, 84, 85, 86, 87, 88] (by decide +kernel) (by decide +kernel)
set_option maxRecDepth 20000 in
theorem gX10_common_X10_firstOf : GoodIn wsX10_common (wsV RX10 164 RX10 yX10_firstOf wsX10_firstOf) := goodIn_app (goodIn_of _ (by decide +kernel)) ggX10_common_X10_firstOf
theorem dX10_common_0 : decode cX10_common 0 = .ok (.iconst 0, 1) := by decide +kernel
theorem dX10_common_1 : decode cX10_common 1 = .ok (.istore_n 3, 1) := by decide +kernel
theorem dX10_common_2 : decode cX10_common 2 = .ok (.lconst 0, 1) := by decide +kernel
theorem dX10_common_3 : decode cX10_common 3 = .ok (.lstore 4, 2) := by decide +kernel
theorem dX10_common_5 : decode cX10_common 5 = .ok (.iconst 0, 1) := by decide +kernel
theorem dX10_common_6 : decode cX10_common 6 = .ok (.istore 6, 2) := by decide +kernel
theorem dX10_common_8 : decode cX10_common 8 = .ok (.iload 6, 2) := by decide +kernel
theorem dX10_common_10 : decode cX10_common 10 = .ok (.aload_n 0, 1) := by decide +kernel
theorem dX10_common_11 : decode cX10_common 11 = .ok (.getfield 13, 3) := by decide +kernel
theorem dX10_common_14 : decode cX10_common 14 = .ok (.if_icmp .ge 62, 3) := by decide +kernel
theorem dX10_common_17 : decode cX10_common 17 = .ok (.aload_n 0, 1) := by decide +kernel
theorem dX10_common_18 : decode cX10_common 18 = .ok (.iload_n 1, 1) := by decide +kernel
theorem dX10_common_19 : decode cX10_common 19 = .ok (.invokevirtual 120, 3) := by decide +kernel
theorem dX10_common_22 : decode cX10_common 22 = .ok (.ifCond .eq 54, 3) := by decide +kernel
theorem dX10_common_25 : decode cX10_common 25 = .ok (.aload_n 0, 1) := by decide +kernel
theorem dX10_common_26 : decode cX10_common 26 = .ok (.iload_n 2, 1) := by decide +kernel
theorem dX10_common_27 : decode cX10_common 27 = .ok (.invokevirtual 143, 3) := by decide +kernel
theorem dX10_common_30 : decode cX10_common 30 = .ok (.ifCond .eq 46, 3) := by decide +kernel
theorem dX10_common_33 : decode cX10_common 33 = .ok (.aload_n 0, 1) := by decide +kernel
theorem dX10_common_34 : decode cX10_common 34 = .ok (.iload 6, 2) := by decide +kernel
theorem dX10_common_36 : decode cX10_common 36 = .ok (.iload_n 1, 1) := by decide +kernel
theorem dX10_common_37 : decode cX10_common 37 = .ok (.invokevirtual 146, 3) := by decide +kernel
theorem dX10_common_40 : decode cX10_common 40 = .ok (.ifCond .ne 6, 3) := by decide +kernel
theorem dX10_common_43 : decode cX10_common 43 = .ok (.goto 27, 3) := by decide +kernel
theorem dX10_common_46 : decode cX10_common 46 = .ok (.lload 4, 2) := by decide +kernel
theorem dX10_common_48 : decode cX10_common 48 = .ok (.aload_n 0, 1) := by decide +kernel
theorem dX10_common_49 : decode cX10_common 49 = .ok (.iload 6, 2) := by decide +kernel
theorem dX10_common_51 : decode cX10_common 51 = .ok (.iload_n 1, 1) := by decide +kernel
theorem dX10_common_52 : decode cX10_common 52 = .ok (.iload_n 2, 1) := by decide +kernel
theorem dX10_common_53 : decode cX10_common 53 = .ok (.invokevirtual 149, 3) := by decide +kernel
theorem dX10_common_56 : decode cX10_common 56 = .ok (.aload_n 0, 1) := by decide +kernel
theorem dX10_common_57 : decode cX10_common 57 = .ok (.iload 6, 2) := by decide +kernel
theorem dX10_common_59 : decode cX10_common 59 = .ok (.iload_n 2, 1) := by decide +kernel
theorem dX10_common_60 : decode cX10_common 60 = .ok (.invokevirtual 164, 3) := by decide +kernel
theorem dX10_common_63 : decode cX10_common 63 = .ok (.lsub, 1) := by decide +kernel
theorem dX10_common_64 : decode cX10_common 64 = .ok (.ladd, 1) := by decide +kernel
theorem dX10_common_65 : decode cX10_common 65 = .ok (.lstore 4, 2) := by decide +kernel
theorem dX10_common_67 : decode cX10_common 67 = .ok (.iinc 3 1, 3) := by decide +kernel
theorem dX10_common_70 : decode cX10_common 70 = .ok (.iinc 6 1, 3) := by decide +kernel
theorem dX10_common_73 : decode cX10_common 73 = .ok (.goto (-65), 3) := by decide +kernel
theorem dX10_common_76 : decode cX10_common 76 = .ok (.aload_n 0, 1) := by decide +kernel
theorem dX10_common_77 : decode cX10_common 77 = .ok (.aload_n 0, 1) := by decide +kernel
theorem dX10_common_78 : decode cX10_common 78 = .ok (.iload_n 1, 1) := by decide +kernel
theorem dX10_common_79 : decode cX10_common 79 = .ok (.invokevirtual 120, 3) := by decide +kernel
theorem dX10_common_82 : decode cX10_common 82 = .ok (.ifCond .eq 11, 3) := by decide +kernel
theorem dX10_common_85 : decode cX10_common 85 = .ok (.aload_n 0, 1) := by decide +kernel
theorem dX10_common_86 : decode cX10_common 86 = .ok (.iload_n 2, 1) := by decide +kernel
theorem dX10_common_87 : decode cX10_common 87 = .ok (.invokevirtual 143, 3) := by decide +kernel
theorem dX10_common_90 : decode cX10_common 90 = .ok (.ifCond .ne 7, 3) := by decide +kernel
theorem dX10_common_93 : decode cX10_common 93 = .ok (.iconst 1, 1) := by decide +kernel
theorem dX10_common_94 : decode cX10_common 94 = .ok (.goto 12, 3) := by decide +kernel
theorem dX10_common_97 : decode cX10_common 97 = .ok (.iload_n 3, 1) := by decide +kernel
theorem dX10_common_98 : decode cX10_common 98 = .ok (.ifCond .ne 7, 3) := by decide +kernel
theorem dX10_common_101 : decode cX10_common 101 = .ok (.iconst 2, 1) := by decide +kernel
theorem dX10_common_102 : decode cX10_common 102 = .ok (.goto 4, 3) := by decide +kernel
theorem dX10_common_105 : decode cX10_common 105 = .ok (.iconst 0, 1) := by decide +kernel
theorem dX10_common_106 : decode cX10_common 106 = .ok (.putfield 7, 3) := by decide +kernel
theorem dX10_common_109 : decode cX10_common 109 = .ok (.aload_n 0, 1) := by decide +kernel
theorem dX10_common_110 : decode cX10_common 110 = .ok (.getfield 7, 3) := by decide +kernel
theorem dX10_common_113 : decode cX10_common 113 = .ok (.ifCond .le 7, 3) := by decide +kernel
theorem dX10_common_116 : decode cX10_common 116 = .ok (.lconst 0, 1) := by decide +kernel
theorem dX10_common_117 : decode cX10_common 117 = .ok (.goto 8, 3) := by decide +kernel
theorem dX10_common_120 : decode cX10_common 120 = .ok (.lload 4, 2) := by decide +kernel
theorem dX10_common_122 : decode cX10_common 122 = .ok (.iload_n 3, 1) := by decide +kernel
theorem dX10_common_123 : decode cX10_common 123 = .ok (.i2l, 1) := by decide +kernel
theorem dX10_common_124 : decode cX10_common 124 = .ok (.ldiv, 1) := by decide +kernel
theorem dX10_common_125 : decode cX10_common 125 = .ok (.lreturn, 1) := by decide +kernel
set_option maxRecDepth 20000 in
theorem ggX10_velocity_X10_isMark : GoodIn wsX10_velocity wsX10_isMark := goodIn_r _ [7, 8, 9, 10, 11, 6, 12, 13, 14, 15, 16, 17, 18, 19, 20, 21, 22, 23, 24, 25, 26, 27, 28, 29, 30, 31, 32, 33, 34, 35, 36, 37, 38, 39, 40, 41, 42, 43, 44, 45] (by decide +kernel) (by decide +kernel)
set_option maxRecDepth 20000 in
theorem gX10_velocity_X10_isMark : GoodIn wsX10_velocity (wsV RX10 116 RX10 yX10_isMark wsX10_isMark) := goodIn_app (goodIn_of _ (by decide +kernel)) ggX10_velocity_X10_isMark
set_option maxRecDepth 20000 in
theorem ggX10_velocity_X10_in : GoodIn wsX10_velocity wsX10_in := goodIn_r _ [12] (by decide +kernel) (by decide +kernel)
set_option maxRecDepth 20000 in
theorem gX10_velocity_X10_in : GoodIn wsX10_velocity (wsV RX10 112 RX10 yX10_in wsX10_in) := goodIn_app (goodIn_of _ (by decide +kernel)) ggX10_velocity_X10_in
theorem dX10_velocity_0 : decode cX10_velocity 0 = .ok (.aload_n 0, 1) := by decide +kernel
theorem dX10_velocity_1 : decode cX10_velocity 1 = .ok (.iload_n 1, 1) := by decide +kernel
theorem dX10_velocity_2 : decode cX10_velocity 2 = .ok (.invokevirtual 116, 3) := by decide +kernel
theorem dX10_velocity_5 : decode cX10_velocity 5 = .ok (.ifCond .eq 31, 3) := by decide +kernel
theorem dX10_velocity_8 : decode cX10_velocity 8 = .ok (.aload_n 0, 1) := by decide +kernel
theorem dX10_velocity_9 : decode cX10_velocity 9 = .ok (.iload_n 2, 1) := by decide +kernel
theorem dX10_velocity_10 : decode cX10_velocity 10 = .ok (.sipush (-1000), 3) := by decide +kernel
theorem dX10_velocity_13 : decode cX10_velocity 13 = .ok (.sipush 1000, 3) := by decide +kernel
theorem dX10_velocity_16 : decode cX10_velocity 16 = .ok (.invokevirtual 112, 3) := by decide +kernel
theorem dX10_velocity_19 : decode cX10_velocity 19 = .ok (.ifCond .eq 17, 3) := by decide +kernel
theorem dX10_velocity_22 : decode cX10_velocity 22 = .ok (.aload_n 0, 1) := by decide +kernel
theorem dX10_velocity_23 : decode cX10_velocity 23 = .ok (.iload_n 3, 1) := by decide +kernel
theorem dX10_velocity_24 : decode cX10_velocity 24 = .ok (.sipush (-1000), 3) := by decide +kernel
theorem dX10_velocity_27 : decode cX10_velocity 27 = .ok (.sipush 1000, 3) := by decide +kernel
theorem dX10_velocity_30 : decode cX10_velocity 30 = .ok (.invokevirtual 112, 3) := by decide +kernel
theorem dX10_velocity_33 : decode cX10_velocity 33 = .ok (.ifCond .ne 5, 3) := by decide +kernel
theorem dX10_velocity_36 : decode cX10_velocity 36 = .ok (.iconst (-1), 1) := by decide +kernel
theorem dX10_velocity_37 : decode cX10_velocity 37 = .ok (.ireturn, 1) := by decide +kernel
theorem dX10_velocity_38 : decode cX10_velocity 38 = .ok (.aload_n 0, 1) := by decide +kernel
theorem dX10_velocity_39 : decode cX10_velocity 39 = .ok (.getfield 48, 3) := by decide +kernel
theorem dX10_velocity_42 : decode cX10_velocity 42 = .ok (.iload_n 1, 1) := by decide +kernel
theorem dX10_velocity_43 : decode cX10_velocity 43 = .ok (.iaload, 1) := by decide +kernel
theorem dX10_velocity_44 : decode cX10_velocity 44 = .ok (.iload_n 2, 1) := by decide +kernel
theorem dX10_velocity_45 : decode cX10_velocity 45 = .ok (.if_icmp .ne 17, 3) := by decide +kernel
theorem dX10_velocity_48 : decode cX10_velocity 48 = .ok (.aload_n 0, 1) := by decide +kernel
theorem dX10_velocity_49 : decode cX10_velocity 49 = .ok (.getfield 51, 3) := by decide +kernel
theorem dX10_velocity_52 : decode cX10_velocity 52 = .ok (.iload_n 1, 1) := by decide +kernel
theorem dX10_velocity_53 : decode cX10_velocity 53 = .ok (.iaload, 1) := by decide +kernel
theorem dX10_velocity_54 : decode cX10_velocity 54 = .ok (.iload_n 3, 1) := by decide +kernel
theorem dX10_velocity_55 : decode cX10_velocity 55 = .ok (.if_icmp .ne 7, 3) := by decide +kernel
theorem dX10_velocity_58 : decode cX10_velocity 58 = .ok (.iconst 0, 1) := by decide +kernel
theorem dX10_velocity_59 : decode cX10_velocity 59 = .ok (.goto 4, 3) := by decide +kernel
theorem dX10_velocity_62 : decode cX10_velocity 62 = .ok (.iconst 1, 1) := by decide +kernel
theorem dX10_velocity_63 : decode cX10_velocity 63 = .ok (.istore 4, 2) := by decide +kernel
theorem dX10_velocity_65 : decode cX10_velocity 65 = .ok (.aload_n 0, 1) := by decide +kernel
theorem dX10_velocity_66 : decode cX10_velocity 66 = .ok (.getfield 48, 3) := by decide +kernel
theorem dX10_velocity_69 : decode cX10_velocity 69 = .ok (.iload_n 1, 1) := by decide +kernel
theorem dX10_velocity_70 : decode cX10_velocity 70 = .ok (.iload_n 2, 1) := by decide +kernel
theorem dX10_velocity_71 : decode cX10_velocity 71 = .ok (.iastore, 1) := by decide +kernel
theorem dX10_velocity_72 : decode cX10_velocity 72 = .ok (.aload_n 0, 1) := by decide +kernel
theorem dX10_velocity_73 : decode cX10_velocity 73 = .ok (.getfield 51, 3) := by decide +kernel
theorem dX10_velocity_76 : decode cX10_velocity 76 = .ok (.iload_n 1, 1) := by decide +kernel
theorem dX10_velocity_77 : decode cX10_velocity 77 = .ok (.iload_n 3, 1) := by decide +kernel
theorem dX10_velocity_78 : decode cX10_velocity 78 = .ok (.iastore, 1) := by decide +kernel
theorem dX10_velocity_79 : decode cX10_velocity 79 = .ok (.iload 4, 2) := by decide +kernel
theorem dX10_velocity_81 : decode cX10_velocity 81 = .ok (.ireturn, 1) := by decide +kernel
set_option maxRecDepth 20000 in
theorem ggX10_moves_X10_isMark : GoodIn wsX10_moves wsX10_isMark := goodIn_r _ [8, 9, 10, 11, 12, 7, 13, 18, 19, 20, 21, 22, 23, 24, 25, 26, 27, 28, 29, 30, 31, 32, 33, 34, 35, 36, 37, 38, 39, 40, 41, 42, 43, 44, 45, 46, 47, 48, 49, 50] (by decide +kernel) (by decide +kernel)
set_option maxRecDepth 20000 in
theorem gX10_moves_X10_isMark : GoodIn wsX10_moves (wsV RX10 116 RX10 yX10_isMark wsX10_isMark) := goodIn_app (goodIn_of _ (by decide +kernel)) ggX10_moves_X10_isMark
set_option maxRecDepth 20000 in
theorem ggX10_moves_X10_isSide : GoodIn wsX10_moves wsX10_isSide := goodIn_r _ [17] (by decide +kernel) (by decide +kernel)
set_option maxRecDepth 20000 in
theorem gX10_moves_X10_isSide : GoodIn wsX10_moves (wsV RX10 143 RX10 yX10_isSide wsX10_isSide) := goodIn_app (goodIn_of _ (by decide +kernel)) ggX10_moves_X10_isSide
theorem dX10_moves_0 : decode cX10_moves 0 = .ok (.aload_n 0, 1) := by decide +kernel
theorem dX10_moves_1 : decode cX10_moves 1 = .ok (.aload_n 0, 1) := by decide +kernel
theorem dX10_moves_2 : decode cX10_moves 2 = .ok (.iload_n 1, 1) := by decide +kernel
theorem dX10_moves_3 : decode cX10_moves 3 = .ok (.invokevirtual 116, 3) := by decide +kernel
theorem dX10_moves_6 : decode cX10_moves 6 = .ok (.ifCond .eq 15, 3) := by decide +kernel
theorem dX10_moves_9 : decode cX10_moves 9 = .ok (.aload_n 0, 1) := by decide +kernel
theorem dX10_moves_10 : decode cX10_moves 10 = .ok (.iload_n 2, 1) := by decide +kernel
theorem dX10_moves_11 : decode cX10_moves 11 = .ok (.invokevirtual 143, 3) := by decide +kernel
theorem dX10_moves_14 : decode cX10_moves 14 = .ok (.ifCond .eq 7, 3) := by decide +kernel
theorem dX10_moves_17 : decode cX10_moves 17 = .ok (.iconst 0, 1) := by decide +kernel
theorem dX10_moves_18 : decode cX10_moves 18 = .ok (.goto 4, 3) := by decide +kernel
theorem dX10_moves_21 : decode cX10_moves 21 = .ok (.iconst 1, 1) := by decide +kernel
theorem dX10_moves_22 : decode cX10_moves 22 = .ok (.putfield 7, 3) := by decide +kernel
theorem dX10_moves_25 : decode cX10_moves 25 = .ok (.aload_n 0, 1) := by decide +kernel
theorem dX10_moves_26 : decode cX10_moves 26 = .ok (.getfield 7, 3) := by decide +kernel
theorem dX10_moves_29 : decode cX10_moves 29 = .ok (.ifCond .le 7, 3) := by decide +kernel
theorem dX10_moves_32 : decode cX10_moves 32 = .ok (.lconst 0, 1) := by decide +kernel
theorem dX10_moves_33 : decode cX10_moves 33 = .ok (.goto 24, 3) := by decide +kernel
theorem dX10_moves_36 : decode cX10_moves 36 = .ok (.iload_n 2, 1) := by decide +kernel
theorem dX10_moves_37 : decode cX10_moves 37 = .ok (.ifCond .ne 13, 3) := by decide +kernel
theorem dX10_moves_40 : decode cX10_moves 40 = .ok (.aload_n 0, 1) := by decide +kernel
theorem dX10_moves_41 : decode cX10_moves 41 = .ok (.getfield 48, 3) := by decide +kernel
theorem dX10_moves_44 : decode cX10_moves 44 = .ok (.iload_n 1, 1) := by decide +kernel
theorem dX10_moves_45 : decode cX10_moves 45 = .ok (.iaload, 1) := by decide +kernel
theorem dX10_moves_46 : decode cX10_moves 46 = .ok (.i2l, 1) := by decide +kernel
theorem dX10_moves_47 : decode cX10_moves 47 = .ok (.goto 10, 3) := by decide +kernel
theorem dX10_moves_50 : decode cX10_moves 50 = .ok (.aload_n 0, 1) := by decide +kernel
theorem dX10_moves_51 : decode cX10_moves 51 = .ok (.getfield 51, 3) := by decide +kernel
theorem dX10_moves_54 : decode cX10_moves 54 = .ok (.iload_n 1, 1) := by decide +kernel
theorem dX10_moves_55 : decode cX10_moves 55 = .ok (.iaload, 1) := by decide +kernel
theorem dX10_moves_56 : decode cX10_moves 56 = .ok (.i2l, 1) := by decide +kernel
theorem dX10_moves_57 : decode cX10_moves 57 = .ok (.lreturn, 1) := by decide +kernel
set_option maxRecDepth 20000 in
theorem ggX10_frame_X10_in : GoodIn wsX10_frame wsX10_in := goodIn_r _ [12] (by decide +kernel) (by decide +kernel)
set_option maxRecDepth 20000 in
theorem gX10_frame_X10_in : GoodIn wsX10_frame (wsV RX10 112 RX10 yX10_in wsX10_in) := goodIn_app (goodIn_of _ (by decide +kernel)) ggX10_frame_X10_in
theorem dX10_frame_0 : decode cX10_frame 0 = .ok (.aload_n 0, 1) := by decide +kernel
theorem dX10_frame_1 : decode cX10_frame 1 = .ok (.iload_n 1, 1) := by decide +kernel
theorem dX10_frame_2 : decode cX10_frame 2 = .ok (.sipush (-1000), 3) := by decide +kernel
theorem dX10_frame_5 : decode cX10_frame 5 = .ok (.sipush 1000, 3) := by decide +kernel
theorem dX10_frame_8 : decode cX10_frame 8 = .ok (.invokevirtual 112, 3) := by decide +kernel
theorem dX10_frame_11 : decode cX10_frame 11 = .ok (.ifCond .eq 29, 3) := by decide +kernel
theorem dX10_frame_14 : decode cX10_frame 14 = .ok (.aload_n 0, 1) := by decide +kernel
theorem dX10_frame_15 : decode cX10_frame 15 = .ok (.iload_n 2, 1) := by decide +kernel
theorem dX10_frame_16 : decode cX10_frame 16 = .ok (.sipush (-1000), 3) := by decide +kernel
theorem dX10_frame_19 : decode cX10_frame 19 = .ok (.sipush 1000, 3) := by decide +kernel
theorem dX10_frame_22 : decode cX10_frame 22 = .ok (.invokevirtual 112, 3) := by decide +kernel
theorem dX10_frame_25 : decode cX10_frame 25 = .ok (.ifCond .eq 15, 3) := by decide +kernel
theorem dX10_frame_28 : decode cX10_frame 28 = .ok (.aload_n 0, 1) := by decide +kernel
theorem dX10_frame_29 : decode cX10_frame 29 = .ok (.iload_n 3, 1) := by decide +kernel
theorem dX10_frame_30 : decode cX10_frame 30 = .ok (.bipush (-9), 2) := by decide +kernel
theorem dX10_frame_32 : decode cX10_frame 32 = .ok (.bipush 9, 2) := by decide +kernel
theorem dX10_frame_34 : decode cX10_frame 34 = .ok (.invokevirtual 112, 3) := by decide +kernel
theorem dX10_frame_37 : decode cX10_frame 37 = .ok (.ifCond .ne 5, 3) := by decide +kernel
theorem dX10_frame_40 : decode cX10_frame 40 = .ok (.iconst (-1), 1) := by decide +kernel
theorem dX10_frame_41 : decode cX10_frame 41 = .ok (.ireturn, 1) := by decide +kernel
theorem dX10_frame_42 : decode cX10_frame 42 = .ok (.iconst 0, 1) := by decide +kernel
theorem dX10_frame_43 : decode cX10_frame 43 = .ok (.istore 4, 2) := by decide +kernel
theorem dX10_frame_45 : decode cX10_frame 45 = .ok (.iload 4, 2) := by decide +kernel
theorem dX10_frame_47 : decode cX10_frame 47 = .ok (.aload_n 0, 1) := by decide +kernel
theorem dX10_frame_48 : decode cX10_frame 48 = .ok (.getfield 13, 3) := by decide +kernel
theorem dX10_frame_51 : decode cX10_frame 51 = .ok (.if_icmp .ge 72, 3) := by decide +kernel
theorem dX10_frame_54 : decode cX10_frame 54 = .ok (.aload_n 0, 1) := by decide +kernel
theorem dX10_frame_55 : decode cX10_frame 55 = .ok (.aload_n 0, 1) := by decide +kernel
theorem dX10_frame_56 : decode cX10_frame 56 = .ok (.getfield 48, 3) := by decide +kernel
theorem dX10_frame_59 : decode cX10_frame 59 = .ok (.iload 4, 2) := by decide +kernel
theorem dX10_frame_61 : decode cX10_frame 61 = .ok (.iaload, 1) := by decide +kernel
theorem dX10_frame_62 : decode cX10_frame 62 = .ok (.iload_n 1, 1) := by decide +kernel
theorem dX10_frame_63 : decode cX10_frame 63 = .ok (.iload_n 3, 1) := by decide +kernel
theorem dX10_frame_64 : decode cX10_frame 64 = .ok (.aload_n 0, 1) := by decide +kernel
theorem dX10_frame_65 : decode cX10_frame 65 = .ok (.getfield 23, 3) := by decide +kernel
theorem dX10_frame_68 : decode cX10_frame 68 = .ok (.iload 4, 2) := by decide +kernel
theorem dX10_frame_70 : decode cX10_frame 70 = .ok (.iaload, 1) := by decide +kernel
theorem dX10_frame_71 : decode cX10_frame 71 = .ok (.imul, 1) := by decide +kernel
theorem dX10_frame_72 : decode cX10_frame 72 = .ok (.isub, 1) := by decide +kernel
theorem dX10_frame_73 : decode cX10_frame 73 = .ok (.isub, 1) := by decide +kernel
theorem dX10_frame_74 : decode cX10_frame 74 = .ok (.ldc 126, 2) := by decide +kernel
theorem dX10_frame_76 : decode cX10_frame 76 = .ok (.ldc 127, 2) := by decide +kernel
theorem dX10_frame_78 : decode cX10_frame 78 = .ok (.invokevirtual 112, 3) := by decide +kernel
theorem dX10_frame_81 : decode cX10_frame 81 = .ok (.ifCond .eq 33, 3) := by decide +kernel
theorem dX10_frame_84 : decode cX10_frame 84 = .ok (.aload_n 0, 1) := by decide +kernel
theorem dX10_frame_85 : decode cX10_frame 85 = .ok (.aload_n 0, 1) := by decide +kernel
theorem dX10_frame_86 : decode cX10_frame 86 = .ok (.getfield 51, 3) := by decide +kernel
theorem dX10_frame_89 : decode cX10_frame 89 = .ok (.iload 4, 2) := by decide +kernel
theorem dX10_frame_91 : decode cX10_frame 91 = .ok (.iaload, 1) := by decide +kernel
theorem dX10_frame_92 : decode cX10_frame 92 = .ok (.iload_n 2, 1) := by decide +kernel
theorem dX10_frame_93 : decode cX10_frame 93 = .ok (.iload_n 3, 1) := by decide +kernel
theorem dX10_frame_94 : decode cX10_frame 94 = .ok (.aload_n 0, 1) := by decide +kernel
theorem dX10_frame_95 : decode cX10_frame 95 = .ok (.getfield 20, 3) := by decide +kernel
theorem dX10_frame_98 : decode cX10_frame 98 = .ok (.iload 4, 2) := by decide +kernel
theorem dX10_frame_100 : decode cX10_frame 100 = .ok (.iaload, 1) := by decide +kernel
theorem dX10_frame_101 : decode cX10_frame 101 = .ok (.imul, 1) := by decide +kernel
theorem dX10_frame_102 : decode cX10_frame 102 = .ok (.iadd, 1) := by decide +kernel
theorem dX10_frame_103 : decode cX10_frame 103 = .ok (.isub, 1) := by decide +kernel
theorem dX10_frame_104 : decode cX10_frame 104 = .ok (.ldc 126, 2) := by decide +kernel
theorem dX10_frame_106 : decode cX10_frame 106 = .ok (.ldc 127, 2) := by decide +kernel
theorem dX10_frame_108 : decode cX10_frame 108 = .ok (.invokevirtual 112, 3) := by decide +kernel
theorem dX10_frame_111 : decode cX10_frame 111 = .ok (.ifCond .ne 6, 3) := by decide +kernel
theorem dX10_frame_114 : decode cX10_frame 114 = .ok (.bipush (-2), 2) := by decide +kernel
theorem dX10_frame_116 : decode cX10_frame 116 = .ok (.ireturn, 1) := by decide +kernel
theorem dX10_frame_117 : decode cX10_frame 117 = .ok (.iinc 4 1, 3) := by decide +kernel
theorem dX10_frame_120 : decode cX10_frame 120 = .ok (.goto (-75), 3) := by decide +kernel
theorem dX10_frame_123 : decode cX10_frame 123 = .ok (.iconst 0, 1) := by decide +kernel
theorem dX10_frame_124 : decode cX10_frame 124 = .ok (.istore 4, 2) := by decide +kernel
theorem dX10_frame_126 : decode cX10_frame 126 = .ok (.iload 4, 2) := by decide +kernel
theorem dX10_frame_128 : decode cX10_frame 128 = .ok (.aload_n 0, 1) := by decide +kernel
theorem dX10_frame_129 : decode cX10_frame 129 = .ok (.getfield 13, 3) := by decide +kernel
theorem dX10_frame_132 : decode cX10_frame 132 = .ok (.if_icmp .ge 51, 3) := by decide +kernel
theorem dX10_frame_135 : decode cX10_frame 135 = .ok (.aload_n 0, 1) := by decide +kernel
theorem dX10_frame_136 : decode cX10_frame 136 = .ok (.getfield 48, 3) := by decide +kernel
theorem dX10_frame_139 : decode cX10_frame 139 = .ok (.iload 4, 2) := by decide +kernel
theorem dX10_frame_141 : decode cX10_frame 141 = .ok (.dup2, 1) := by decide +kernel
theorem dX10_frame_142 : decode cX10_frame 142 = .ok (.iaload, 1) := by decide +kernel
theorem dX10_frame_143 : decode cX10_frame 143 = .ok (.iload_n 1, 1) := by decide +kernel
theorem dX10_frame_144 : decode cX10_frame 144 = .ok (.iload_n 3, 1) := by decide +kernel
theorem dX10_frame_145 : decode cX10_frame 145 = .ok (.aload_n 0, 1) := by decide +kernel
theorem dX10_frame_146 : decode cX10_frame 146 = .ok (.getfield 23, 3) := by decide +kernel
theorem dX10_frame_149 : decode cX10_frame 149 = .ok (.iload 4, 2) := by decide +kernel
theorem dX10_frame_151 : decode cX10_frame 151 = .ok (.iaload, 1) := by decide +kernel
theorem dX10_frame_152 : decode cX10_frame 152 = .ok (.imul, 1) := by decide +kernel
theorem dX10_frame_153 : decode cX10_frame 153 = .ok (.isub, 1) := by decide +kernel
theorem dX10_frame_154 : decode cX10_frame 154 = .ok (.isub, 1) := by decide +kernel
theorem dX10_frame_155 : decode cX10_frame 155 = .ok (.iastore, 1) := by decide +kernel
theorem dX10_frame_156 : decode cX10_frame 156 = .ok (.aload_n 0, 1) := by decide +kernel
theorem dX10_frame_157 : decode cX10_frame 157 = .ok (.getfield 51, 3) := by decide +kernel
theorem dX10_frame_160 : decode cX10_frame 160 = .ok (.iload 4, 2) := by decide +kernel
theorem dX10_frame_162 : decode cX10_frame 162 = .ok (.dup2, 1) := by decide +kernel
theorem dX10_frame_163 : decode cX10_frame 163 = .ok (.iaload, 1) := by decide +kernel
theorem dX10_frame_164 : decode cX10_frame 164 = .ok (.iload_n 2, 1) := by decide +kernel
theorem dX10_frame_165 : decode cX10_frame 165 = .ok (.iload_n 3, 1) := by decide +kernel
theorem dX10_frame_166 : decode cX10_frame 166 = .ok (.aload_n 0, 1) := by decide +kernel
theorem dX10_frame_167 : decode cX10_frame 167 = .ok (.getfield 20, 3) := by decide +kernel
theorem dX10_frame_170 : decode cX10_frame 170 = .ok (.iload 4, 2) := by decide +kernel
theorem dX10_frame_172 : decode cX10_frame 172 = .ok (.iaload, 1) := by decide +kernel
theorem dX10_frame_173 : decode cX10_frame 173 = .ok (.imul, 1) := by decide +kernel
theorem dX10_frame_174 : decode cX10_frame 174 = .ok (.iadd, 1) := by decide +kernel
theorem dX10_frame_175 : decode cX10_frame 175 = .ok (.isub, 1) := by decide +kernel
theorem dX10_frame_176 : decode cX10_frame 176 = .ok (.iastore, 1) := by decide +kernel
theorem dX10_frame_177 : decode cX10_frame 177 = .ok (.iinc 4 1, 3) := by decide +kernel
theorem dX10_frame_180 : decode cX10_frame 180 = .ok (.goto (-54), 3) := by decide +kernel
theorem dX10_frame_183 : decode cX10_frame 183 = .ok (.iconst 1, 1) := by decide +kernel
theorem dX10_frame_184 : decode cX10_frame 184 = .ok (.ireturn, 1) := by decide +kernel
set_option maxRecDepth 20000 in
theorem ggX10_strain_X10_isMark : GoodIn wsX10_strain wsX10_isMark := goodIn_r _ [10, 11, 12, 13, 14, 9, 15, 24, 25, 26, 27, 28, 29, 30, 31, 32, 33, 34, 35, 36, 37, 38, 39, 40, 41, 42, 43, 44, 45, 46, 47, 48, 49, 50, 51, 52, 53, 54, 55, 56] (by decide +kernel) (by decide +kernel)
set_option maxRecDepth 20000 in
theorem gX10_strain_X10_isMark : GoodIn wsX10_strain (wsV RX10 116 RX10 yX10_isMark wsX10_isMark) := goodIn_app (goodIn_of _ (by decide +kernel)) ggX10_strain_X10_isMark
set_option maxRecDepth 20000 in
theorem ggX10_strain_X10_in : GoodIn wsX10_strain wsX10_in := goodIn_r _ [15] (by decide +kernel) (by decide +kernel)
set_option maxRecDepth 20000 in
theorem gX10_strain_X10_in : GoodIn wsX10_strain (wsV RX10 112 RX10 yX10_in wsX10_in) := goodIn_app (goodIn_of _ (by decide +kernel)) ggX10_strain_X10_in
set_option maxRecDepth 20000 in
theorem ggX10_strain_X10_lowest : GoodIn wsX10_strain wsX10_lowest := goodIn_r _ [19, 20, 21, 22, 9, 23] (by decide +kernel) (by decide +kernel)
set_option maxRecDepth 20000 in
theorem gX10_strain_X10_lowest : GoodIn wsX10_strain (wsV RX10 160 RX10 yX10_lowest wsX10_lowest) := goodIn_app (goodIn_of _ (by decide +kernel)) ggX10_strain_X10_lowest
theorem dX10_strain_0 : decode cX10_strain 0 = .ok (.aload_n 0, 1) := by decide +kernel
theorem dX10_strain_1 : decode cX10_strain 1 = .ok (.aload_n 0, 1) := by decide +kernel
theorem dX10_strain_2 : decode cX10_strain 2 = .ok (.iload_n 1, 1) := by decide +kernel
theorem dX10_strain_3 : decode cX10_strain 3 = .ok (.invokevirtual 116, 3) := by decide +kernel
theorem dX10_strain_6 : decode cX10_strain 6 = .ok (.ifCond .eq 34, 3) := by decide +kernel
theorem dX10_strain_9 : decode cX10_strain 9 = .ok (.aload_n 0, 1) := by decide +kernel
theorem dX10_strain_10 : decode cX10_strain 10 = .ok (.iload_n 2, 1) := by decide +kernel
theorem dX10_strain_11 : decode cX10_strain 11 = .ok (.invokevirtual 116, 3) := by decide +kernel
theorem dX10_strain_14 : decode cX10_strain 14 = .ok (.ifCond .eq 26, 3) := by decide +kernel
theorem dX10_strain_17 : decode cX10_strain 17 = .ok (.aload_n 0, 1) := by decide +kernel
theorem dX10_strain_18 : decode cX10_strain 18 = .ok (.iload_n 3, 1) := by decide +kernel
theorem dX10_strain_19 : decode cX10_strain 19 = .ok (.invokevirtual 116, 3) := by decide +kernel
theorem dX10_strain_22 : decode cX10_strain 22 = .ok (.ifCond .eq 18, 3) := by decide +kernel
theorem dX10_strain_25 : decode cX10_strain 25 = .ok (.aload_n 0, 1) := by decide +kernel
theorem dX10_strain_26 : decode cX10_strain 26 = .ok (.iload 4, 2) := by decide +kernel
theorem dX10_strain_28 : decode cX10_strain 28 = .ok (.iconst 0, 1) := by decide +kernel
theorem dX10_strain_29 : decode cX10_strain 29 = .ok (.iconst 3, 1) := by decide +kernel
theorem dX10_strain_30 : decode cX10_strain 30 = .ok (.invokevirtual 112, 3) := by decide +kernel
theorem dX10_strain_33 : decode cX10_strain 33 = .ok (.ifCond .eq 7, 3) := by decide +kernel
theorem dX10_strain_36 : decode cX10_strain 36 = .ok (.iconst 0, 1) := by decide +kernel
theorem dX10_strain_37 : decode cX10_strain 37 = .ok (.goto 4, 3) := by decide +kernel
theorem dX10_strain_40 : decode cX10_strain 40 = .ok (.iconst 1, 1) := by decide +kernel
theorem dX10_strain_41 : decode cX10_strain 41 = .ok (.putfield 7, 3) := by decide +kernel
theorem dX10_strain_44 : decode cX10_strain 44 = .ok (.aload_n 0, 1) := by decide +kernel
theorem dX10_strain_45 : decode cX10_strain 45 = .ok (.getfield 7, 3) := by decide +kernel
theorem dX10_strain_48 : decode cX10_strain 48 = .ok (.ifCond .le 5, 3) := by decide +kernel
theorem dX10_strain_51 : decode cX10_strain 51 = .ok (.lconst 0, 1) := by decide +kernel
theorem dX10_strain_52 : decode cX10_strain 52 = .ok (.lreturn, 1) := by decide +kernel
theorem dX10_strain_53 : decode cX10_strain 53 = .ok (.aload_n 0, 1) := by decide +kernel
theorem dX10_strain_54 : decode cX10_strain 54 = .ok (.getfield 20, 3) := by decide +kernel
theorem dX10_strain_57 : decode cX10_strain 57 = .ok (.iload_n 2, 1) := by decide +kernel
theorem dX10_strain_58 : decode cX10_strain 58 = .ok (.iaload, 1) := by decide +kernel
theorem dX10_strain_59 : decode cX10_strain 59 = .ok (.aload_n 0, 1) := by decide +kernel
theorem dX10_strain_60 : decode cX10_strain 60 = .ok (.getfield 20, 3) := by decide +kernel
theorem dX10_strain_63 : decode cX10_strain 63 = .ok (.iload_n 1, 1) := by decide +kernel
theorem dX10_strain_64 : decode cX10_strain 64 = .ok (.iaload, 1) := by decide +kernel
theorem dX10_strain_65 : decode cX10_strain 65 = .ok (.isub, 1) := by decide +kernel
theorem dX10_strain_66 : decode cX10_strain 66 = .ok (.i2l, 1) := by decide +kernel
theorem dX10_strain_67 : decode cX10_strain 67 = .ok (.lstore 6, 2) := by decide +kernel
theorem dX10_strain_69 : decode cX10_strain 69 = .ok (.aload_n 0, 1) := by decide +kernel
theorem dX10_strain_70 : decode cX10_strain 70 = .ok (.getfield 23, 3) := by decide +kernel
theorem dX10_strain_73 : decode cX10_strain 73 = .ok (.iload_n 2, 1) := by decide +kernel
theorem dX10_strain_74 : decode cX10_strain 74 = .ok (.iaload, 1) := by decide +kernel
theorem dX10_strain_75 : decode cX10_strain 75 = .ok (.aload_n 0, 1) := by decide +kernel
theorem dX10_strain_76 : decode cX10_strain 76 = .ok (.getfield 23, 3) := by decide +kernel
theorem dX10_strain_79 : decode cX10_strain 79 = .ok (.iload_n 1, 1) := by decide +kernel
theorem dX10_strain_80 : decode cX10_strain 80 = .ok (.iaload, 1) := by decide +kernel
theorem dX10_strain_81 : decode cX10_strain 81 = .ok (.isub, 1) := by decide +kernel
theorem dX10_strain_82 : decode cX10_strain 82 = .ok (.i2l, 1) := by decide +kernel
theorem dX10_strain_83 : decode cX10_strain 83 = .ok (.lstore 8, 2) := by decide +kernel
theorem dX10_strain_85 : decode cX10_strain 85 = .ok (.aload_n 0, 1) := by decide +kernel
theorem dX10_strain_86 : decode cX10_strain 86 = .ok (.getfield 20, 3) := by decide +kernel
theorem dX10_strain_89 : decode cX10_strain 89 = .ok (.iload_n 3, 1) := by decide +kernel
theorem dX10_strain_90 : decode cX10_strain 90 = .ok (.iaload, 1) := by decide +kernel
theorem dX10_strain_91 : decode cX10_strain 91 = .ok (.aload_n 0, 1) := by decide +kernel
theorem dX10_strain_92 : decode cX10_strain 92 = .ok (.getfield 20, 3) := by decide +kernel
theorem dX10_strain_95 : decode cX10_strain 95 = .ok (.iload_n 1, 1) := by decide +kernel
theorem dX10_strain_96 : decode cX10_strain 96 = .ok (.iaload, 1) := by decide +kernel
theorem dX10_strain_97 : decode cX10_strain 97 = .ok (.isub, 1) := by decide +kernel
theorem dX10_strain_98 : decode cX10_strain 98 = .ok (.i2l, 1) := by decide +kernel
theorem dX10_strain_99 : decode cX10_strain 99 = .ok (.lstore 10, 2) := by decide +kernel
theorem dX10_strain_101 : decode cX10_strain 101 = .ok (.aload_n 0, 1) := by decide +kernel
theorem dX10_strain_102 : decode cX10_strain 102 = .ok (.getfield 23, 3) := by decide +kernel
theorem dX10_strain_105 : decode cX10_strain 105 = .ok (.iload_n 3, 1) := by decide +kernel
theorem dX10_strain_106 : decode cX10_strain 106 = .ok (.iaload, 1) := by decide +kernel
theorem dX10_strain_107 : decode cX10_strain 107 = .ok (.aload_n 0, 1) := by decide +kernel
theorem dX10_strain_108 : decode cX10_strain 108 = .ok (.getfield 23, 3) := by decide +kernel
theorem dX10_strain_111 : decode cX10_strain 111 = .ok (.iload_n 1, 1) := by decide +kernel
theorem dX10_strain_112 : decode cX10_strain 112 = .ok (.iaload, 1) := by decide +kernel
theorem dX10_strain_113 : decode cX10_strain 113 = .ok (.isub, 1) := by decide +kernel
theorem dX10_strain_114 : decode cX10_strain 114 = .ok (.i2l, 1) := by decide +kernel
theorem dX10_strain_115 : decode cX10_strain 115 = .ok (.lstore 12, 2) := by decide +kernel
theorem dX10_strain_117 : decode cX10_strain 117 = .ok (.aload_n 0, 1) := by decide +kernel
theorem dX10_strain_118 : decode cX10_strain 118 = .ok (.getfield 48, 3) := by decide +kernel
theorem dX10_strain_121 : decode cX10_strain 121 = .ok (.iload_n 2, 1) := by decide +kernel
theorem dX10_strain_122 : decode cX10_strain 122 = .ok (.iaload, 1) := by decide +kernel
theorem dX10_strain_123 : decode cX10_strain 123 = .ok (.aload_n 0, 1) := by decide +kernel
theorem dX10_strain_124 : decode cX10_strain 124 = .ok (.getfield 48, 3) := by decide +kernel
theorem dX10_strain_127 : decode cX10_strain 127 = .ok (.iload_n 1, 1) := by decide +kernel
theorem dX10_strain_128 : decode cX10_strain 128 = .ok (.iaload, 1) := by decide +kernel
theorem dX10_strain_129 : decode cX10_strain 129 = .ok (.isub, 1) := by decide +kernel
theorem dX10_strain_130 : decode cX10_strain 130 = .ok (.i2l, 1) := by decide +kernel
theorem dX10_strain_131 : decode cX10_strain 131 = .ok (.lstore 14, 2) := by decide +kernel
theorem dX10_strain_133 : decode cX10_strain 133 = .ok (.aload_n 0, 1) := by decide +kernel
theorem dX10_strain_134 : decode cX10_strain 134 = .ok (.getfield 51, 3) := by decide +kernel
theorem dX10_strain_137 : decode cX10_strain 137 = .ok (.iload_n 2, 1) := by decide +kernel
theorem dX10_strain_138 : decode cX10_strain 138 = .ok (.iaload, 1) := by decide +kernel
theorem dX10_strain_139 : decode cX10_strain 139 = .ok (.aload_n 0, 1) := by decide +kernel
theorem dX10_strain_140 : decode cX10_strain 140 = .ok (.getfield 51, 3) := by decide +kernel
theorem dX10_strain_143 : decode cX10_strain 143 = .ok (.iload_n 1, 1) := by decide +kernel
theorem dX10_strain_144 : decode cX10_strain 144 = .ok (.iaload, 1) := by decide +kernel
theorem dX10_strain_145 : decode cX10_strain 145 = .ok (.isub, 1) := by decide +kernel
theorem dX10_strain_146 : decode cX10_strain 146 = .ok (.i2l, 1) := by decide +kernel
theorem dX10_strain_147 : decode cX10_strain 147 = .ok (.lstore 16, 2) := by decide +kernel
theorem dX10_strain_149 : decode cX10_strain 149 = .ok (.aload_n 0, 1) := by decide +kernel
theorem dX10_strain_150 : decode cX10_strain 150 = .ok (.getfield 48, 3) := by decide +kernel
theorem dX10_strain_153 : decode cX10_strain 153 = .ok (.iload_n 3, 1) := by decide +kernel
theorem dX10_strain_154 : decode cX10_strain 154 = .ok (.iaload, 1) := by decide +kernel
theorem dX10_strain_155 : decode cX10_strain 155 = .ok (.aload_n 0, 1) := by decide +kernel
theorem dX10_strain_156 : decode cX10_strain 156 = .ok (.getfield 48, 3) := by decide +kernel
theorem dX10_strain_159 : decode cX10_strain 159 = .ok (.iload_n 1, 1) := by decide +kernel
theorem dX10_strain_160 : decode cX10_strain 160 = .ok (.iaload, 1) := by decide +kernel
theorem dX10_strain_161 : decode cX10_strain 161 = .ok (.isub, 1) := by decide +kernel
theorem dX10_strain_162 : decode cX10_strain 162 = .ok (.i2l, 1) := by decide +kernel
theorem dX10_strain_163 : decode cX10_strain 163 = .ok (.lstore 18, 2) := by decide +kernel
theorem dX10_strain_165 : decode cX10_strain 165 = .ok (.aload_n 0, 1) := by decide +kernel
theorem dX10_strain_166 : decode cX10_strain 166 = .ok (.getfield 51, 3) := by decide +kernel
theorem dX10_strain_169 : decode cX10_strain 169 = .ok (.iload_n 3, 1) := by decide +kernel
theorem dX10_strain_170 : decode cX10_strain 170 = .ok (.iaload, 1) := by decide +kernel
theorem dX10_strain_171 : decode cX10_strain 171 = .ok (.aload_n 0, 1) := by decide +kernel
theorem dX10_strain_172 : decode cX10_strain 172 = .ok (.getfield 51, 3) := by decide +kernel
theorem dX10_strain_175 : decode cX10_strain 175 = .ok (.iload_n 1, 1) := by decide +kernel
theorem dX10_strain_176 : decode cX10_strain 176 = .ok (.iaload, 1) := by decide +kernel
theorem dX10_strain_177 : decode cX10_strain 177 = .ok (.isub, 1) := by decide +kernel
theorem dX10_strain_178 : decode cX10_strain 178 = .ok (.i2l, 1) := by decide +kernel
theorem dX10_strain_179 : decode cX10_strain 179 = .ok (.lstore 20, 2) := by decide +kernel
theorem dX10_strain_181 : decode cX10_strain 181 = .ok (.lload 6, 2) := by decide +kernel
theorem dX10_strain_183 : decode cX10_strain 183 = .ok (.lload 12, 2) := by decide +kernel
theorem dX10_strain_185 : decode cX10_strain 185 = .ok (.lmul, 1) := by decide +kernel
theorem dX10_strain_186 : decode cX10_strain 186 = .ok (.lload 10, 2) := by decide +kernel
theorem dX10_strain_188 : decode cX10_strain 188 = .ok (.lload 8, 2) := by decide +kernel
theorem dX10_strain_190 : decode cX10_strain 190 = .ok (.lmul, 1) := by decide +kernel
theorem dX10_strain_191 : decode cX10_strain 191 = .ok (.lsub, 1) := by decide +kernel
theorem dX10_strain_192 : decode cX10_strain 192 = .ok (.lstore 22, 2) := by decide +kernel
theorem dX10_strain_194 : decode cX10_strain 194 = .ok (.aload_n 0, 1) := by decide +kernel
theorem dX10_strain_195 : decode cX10_strain 195 = .ok (.lload 22, 2) := by decide +kernel
theorem dX10_strain_197 : decode cX10_strain 197 = .ok (.lconst 0, 1) := by decide +kernel
theorem dX10_strain_198 : decode cX10_strain 198 = .ok (.lcmp, 1) := by decide +kernel
theorem dX10_strain_199 : decode cX10_strain 199 = .ok (.ifCond .ne 7, 3) := by decide +kernel
theorem dX10_strain_202 : decode cX10_strain 202 = .ok (.iconst 2, 1) := by decide +kernel
theorem dX10_strain_203 : decode cX10_strain 203 = .ok (.goto 4, 3) := by decide +kernel
theorem dX10_strain_206 : decode cX10_strain 206 = .ok (.iconst 0, 1) := by decide +kernel
theorem dX10_strain_207 : decode cX10_strain 207 = .ok (.putfield 7, 3) := by decide +kernel
theorem dX10_strain_210 : decode cX10_strain 210 = .ok (.aload_n 0, 1) := by decide +kernel
theorem dX10_strain_211 : decode cX10_strain 211 = .ok (.getfield 7, 3) := by decide +kernel
