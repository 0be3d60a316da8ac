theorem dX9_make_36 : decode cX9_make 36 = .ok (.ireturn, 1) := by decide +kernel
theorem dX9_make_37 : decode cX9_make 37 = .ok (.aload 4, 2) := by decide +kernel
theorem dX9_make_39 : decode cX9_make 39 = .ok (.iload_n 2, 1) := by decide +kernel
theorem dX9_make_40 : decode cX9_make 40 = .ok (.iload_n 3, 1) := by decide +kernel
theorem dX9_make_41 : decode cX9_make 41 = .ok (.invokevirtual 266, 3) := by decide +kernel
theorem dX9_make_44 : decode cX9_make 44 = .ok (.iconst 0, 1) := by decide +kernel
theorem dX9_make_45 : decode cX9_make 45 = .ok (.ireturn, 1) := by decide +kernel
theorem dX9_element_0 : decode cX9_element 0 = .ok (.aload_n 0, 1) := by decide +kernel
theorem dX9_element_1 : decode cX9_element 1 = .ok (.iload_n 1, 1) := by decide +kernel
theorem dX9_element_2 : decode cX9_element 2 = .ok (.invokevirtual 251, 3) := by decide +kernel
theorem dX9_element_5 : decode cX9_element 5 = .ok (.astore_n 3, 1) := by decide +kernel
theorem dX9_element_6 : decode cX9_element 6 = .ok (.aload_n 3, 1) := by decide +kernel
theorem dX9_element_7 : decode cX9_element 7 = .ok (.ifnonnull 14, 3) := by decide +kernel
theorem dX9_element_10 : decode cX9_element 10 = .ok (.new 97, 3) := by decide +kernel
theorem dX9_element_13 : decode cX9_element 13 = .ok (.dup, 1) := by decide +kernel
theorem dX9_element_14 : decode cX9_element 14 = .ok (.ldc_w 269, 3) := by decide +kernel
theorem dX9_element_17 : decode cX9_element 17 = .ok (.invokespecial 101, 3) := by decide +kernel
theorem dX9_element_20 : decode cX9_element 20 = .ok (.athrow, 1) := by decide +kernel
theorem dX9_element_21 : decode cX9_element 21 = .ok (.aload_n 3, 1) := by decide +kernel
theorem dX9_element_22 : decode cX9_element 22 = .ok (.invokevirtual 271, 3) := by decide +kernel
theorem dX9_element_25 : decode cX9_element 25 = .ok (.ifCond .eq 15, 3) := by decide +kernel
theorem dX9_element_28 : decode cX9_element 28 = .ok (.iload_n 2, 1) := by decide +kernel
theorem dX9_element_29 : decode cX9_element 29 = .ok (.ifCond .lt 11, 3) := by decide +kernel
theorem dX9_element_32 : decode cX9_element 32 = .ok (.iload_n 2, 1) := by decide +kernel
theorem dX9_element_33 : decode cX9_element 33 = .ok (.aload_n 3, 1) := by decide +kernel
theorem dX9_element_34 : decode cX9_element 34 = .ok (.invokevirtual 274, 3) := by decide +kernel
theorem dX9_element_37 : decode cX9_element 37 = .ok (.if_icmp .lt 14, 3) := by decide +kernel
theorem dX9_element_40 : decode cX9_element 40 = .ok (.new 107, 3) := by decide +kernel
theorem dX9_element_43 : decode cX9_element 43 = .ok (.dup, 1) := by decide +kernel
theorem dX9_element_44 : decode cX9_element 44 = .ok (.ldc_w 275, 3) := by decide +kernel
theorem dX9_element_47 : decode cX9_element 47 = .ok (.invokespecial 111, 3) := by decide +kernel
theorem dX9_element_50 : decode cX9_element 50 = .ok (.athrow, 1) := by decide +kernel
theorem dX9_element_51 : decode cX9_element 51 = .ok (.aload_n 3, 1) := by decide +kernel
theorem dX9_element_52 : decode cX9_element 52 = .ok (.iload_n 2, 1) := by decide +kernel
theorem dX9_element_53 : decode cX9_element 53 = .ok (.invokevirtual 277, 3) := by decide +kernel
theorem dX9_element_56 : decode cX9_element 56 = .ok (.lreturn, 1) := by decide +kernel
set_option maxRecDepth 20000 in
theorem ggX9_copy_X9_shelfAt : GoodIn wsX9_copy wsX9_shelfAt := goodIn_r _ [5, 6, 31, 32, 33, 34, 35, 36, 37, 38] (by decide +kernel) (by decide +kernel)
set_option maxRecDepth 20000 in
theorem gX9_copy_X9_shelfAt : GoodIn wsX9_copy (wsV RX9 251 RX9 yX9_shelfAt wsX9_shelfAt) := goodIn_app (goodIn_of _ (by decide +kernel)) ggX9_copy_X9_shelfAt
set_option maxRecDepth 20000 in
theorem ggX9_copy_X6_holds : GoodIn wsX9_copy wsX6_holds := goodIn_r _ [11, 12, 39, 40, 41, 42] (by decide +kernel) (by decide +kernel)
set_option maxRecDepth 20000 in
theorem gX9_copy_X6_holds : GoodIn wsX9_copy (wsV RX9 280 RX6 yX6_holds wsX6_holds) := goodIn_app (goodIn_of _ (by decide +kernel)) ggX9_copy_X6_holds
set_option maxRecDepth 20000 in
theorem ggX9_copy_X6_holdsRow : GoodIn wsX9_copy wsX6_holdsRow := goodIn_r _ [16, 12, 39, 40, 41, 42] (by decide +kernel) (by decide +kernel)
set_option maxRecDepth 20000 in
theorem gX9_copy_X6_holdsRow : GoodIn wsX9_copy (wsV RX9 271 RX6 yX6_holdsRow wsX6_holdsRow) := goodIn_app (goodIn_of _ (by decide +kernel)) ggX9_copy_X6_holdsRow
set_option maxRecDepth 20000 in
theorem ggX9_copy_X6_hasPlaces : GoodIn wsX9_copy wsX6_hasPlaces := goodIn_r _ [20, 21, 39, 40, 41, 42] (by decide +kernel) (by decide +kernel)
set_option maxRecDepth 20000 in
theorem gX9_copy_X6_hasPlaces : GoodIn wsX9_copy (wsV RX9 283 RX6 yX6_hasPlaces wsX6_hasPlaces) := goodIn_app (goodIn_of _ (by decide +kernel)) ggX9_copy_X6_hasPlaces
set_option maxRecDepth 20000 in
theorem ggX9_copy_X6_copyPlaces : GoodIn wsX9_copy wsX6_copyPlaces := goodIn_r _ [25, 26, 27, 28, 29, 30, 39, 40, 41, 42] (by decide +kernel) (by decide +kernel)
set_option maxRecDepth 20000 in
theorem gX9_copy_X6_copyPlaces : GoodIn wsX9_copy (wsV RX9 286 RX6 yX6_copyPlaces wsX6_copyPlaces) := goodIn_app (goodIn_of _ (by decide +kernel)) ggX9_copy_X6_copyPlaces
theorem dX9_copy_0 : decode cX9_copy 0 = .ok (.aload_n 0, 1) := by decide +kernel
theorem dX9_copy_1 : decode cX9_copy 1 = .ok (.iload_n 1, 1) := by decide +kernel
theorem dX9_copy_2 : decode cX9_copy 2 = .ok (.invokevirtual 251, 3) := by decide +kernel
theorem dX9_copy_5 : decode cX9_copy 5 = .ok (.astore 6, 2) := by decide +kernel
theorem dX9_copy_7 : decode cX9_copy 7 = .ok (.aload_n 0, 1) := by decide +kernel
theorem dX9_copy_8 : decode cX9_copy 8 = .ok (.iload_n 3, 1) := by decide +kernel
theorem dX9_copy_9 : decode cX9_copy 9 = .ok (.invokevirtual 251, 3) := by decide +kernel
theorem dX9_copy_12 : decode cX9_copy 12 = .ok (.astore 7, 2) := by decide +kernel
theorem dX9_copy_14 : decode cX9_copy 14 = .ok (.aload 6, 2) := by decide +kernel
theorem dX9_copy_16 : decode cX9_copy 16 = .ok (.ifnull 8, 3) := by decide +kernel
theorem dX9_copy_19 : decode cX9_copy 19 = .ok (.aload 7, 2) := by decide +kernel
theorem dX9_copy_21 : decode cX9_copy 21 = .ok (.ifnonnull 5, 3) := by decide +kernel
theorem dX9_copy_24 : decode cX9_copy 24 = .ok (.iconst (-1), 1) := by decide +kernel
theorem dX9_copy_25 : decode cX9_copy 25 = .ok (.ireturn, 1) := by decide +kernel
theorem dX9_copy_26 : decode cX9_copy 26 = .ok (.aload 6, 2) := by decide +kernel
theorem dX9_copy_28 : decode cX9_copy 28 = .ok (.invokevirtual 280, 3) := by decide +kernel
theorem dX9_copy_31 : decode cX9_copy 31 = .ok (.ifCond .eq 11, 3) := by decide +kernel
theorem dX9_copy_34 : decode cX9_copy 34 = .ok (.aload 7, 2) := by decide +kernel
theorem dX9_copy_36 : decode cX9_copy 36 = .ok (.invokevirtual 280, 3) := by decide +kernel
theorem dX9_copy_39 : decode cX9_copy 39 = .ok (.ifCond .ne 6, 3) := by decide +kernel
theorem dX9_copy_42 : decode cX9_copy 42 = .ok (.bipush (-11), 2) := by decide +kernel
theorem dX9_copy_44 : decode cX9_copy 44 = .ok (.ireturn, 1) := by decide +kernel
theorem dX9_copy_45 : decode cX9_copy 45 = .ok (.aload 6, 2) := by decide +kernel
theorem dX9_copy_47 : decode cX9_copy 47 = .ok (.invokevirtual 271, 3) := by decide +kernel
theorem dX9_copy_50 : decode cX9_copy 50 = .ok (.ifCond .eq 16, 3) := by decide +kernel
theorem dX9_copy_53 : decode cX9_copy 53 = .ok (.aload 6, 2) := by decide +kernel
theorem dX9_copy_55 : decode cX9_copy 55 = .ok (.invokevirtual 280, 3) := by decide +kernel
theorem dX9_copy_58 : decode cX9_copy 58 = .ok (.aload 7, 2) := by decide +kernel
theorem dX9_copy_60 : decode cX9_copy 60 = .ok (.invokevirtual 280, 3) := by decide +kernel
theorem dX9_copy_63 : decode cX9_copy 63 = .ok (.if_icmp .eq 6, 3) := by decide +kernel
theorem dX9_copy_66 : decode cX9_copy 66 = .ok (.bipush (-12), 2) := by decide +kernel
theorem dX9_copy_68 : decode cX9_copy 68 = .ok (.ireturn, 1) := by decide +kernel
theorem dX9_copy_69 : decode cX9_copy 69 = .ok (.aload 6, 2) := by decide +kernel
theorem dX9_copy_71 : decode cX9_copy 71 = .ok (.iload_n 2, 1) := by decide +kernel
theorem dX9_copy_72 : decode cX9_copy 72 = .ok (.iload 5, 2) := by decide +kernel
theorem dX9_copy_74 : decode cX9_copy 74 = .ok (.invokevirtual 283, 3) := by decide +kernel
theorem dX9_copy_77 : decode cX9_copy 77 = .ok (.ifCond .eq 15, 3) := by decide +kernel
theorem dX9_copy_80 : decode cX9_copy 80 = .ok (.aload 7, 2) := by decide +kernel
theorem dX9_copy_82 : decode cX9_copy 82 = .ok (.iload 4, 2) := by decide +kernel
theorem dX9_copy_84 : decode cX9_copy 84 = .ok (.iload 5, 2) := by decide +kernel
theorem dX9_copy_86 : decode cX9_copy 86 = .ok (.invokevirtual 283, 3) := by decide +kernel
theorem dX9_copy_89 : decode cX9_copy 89 = .ok (.ifCond .ne 6, 3) := by decide +kernel
theorem dX9_copy_92 : decode cX9_copy 92 = .ok (.bipush (-13), 2) := by decide +kernel
theorem dX9_copy_94 : decode cX9_copy 94 = .ok (.ireturn, 1) := by decide +kernel
theorem dX9_copy_95 : decode cX9_copy 95 = .ok (.aload 6, 2) := by decide +kernel
theorem dX9_copy_97 : decode cX9_copy 97 = .ok (.iload_n 2, 1) := by decide +kernel
theorem dX9_copy_98 : decode cX9_copy 98 = .ok (.aload 7, 2) := by decide +kernel
theorem dX9_copy_100 : decode cX9_copy 100 = .ok (.iload 4, 2) := by decide +kernel
theorem dX9_copy_102 : decode cX9_copy 102 = .ok (.iload 5, 2) := by decide +kernel
theorem dX9_copy_104 : decode cX9_copy 104 = .ok (.invokevirtual 286, 3) := by decide +kernel
theorem dX9_copy_107 : decode cX9_copy 107 = .ok (.iload 5, 2) := by decide +kernel
theorem dX9_copy_109 : decode cX9_copy 109 = .ok (.ireturn, 1) := by decide +kernel
set_option maxRecDepth 20000 in
theorem ggX9_weight_X9_refusalOfMarkOn : GoodIn wsX9_weight wsX9_refusalOfMarkOn := goodIn_r _ [5, 6, 7, 8, 4, 9, 10, 11, 12, 13, 14, 15, 16, 55, 56, 57, 58, 59, 60, 61, 62, 63, 64, 65, 66] (by decide +kernel) (by decide +kernel)
set_option maxRecDepth 20000 in
theorem gX9_weight_X9_refusalOfMarkOn : GoodIn wsX9_weight (wsV RX9 290 RX9 yX9_refusalOfMarkOn wsX9_refusalOfMarkOn) := goodIn_app (goodIn_of _ (by decide +kernel)) ggX9_weight_X9_refusalOfMarkOn
set_option maxRecDepth 20000 in
theorem ggX9_weight_X9_markOn : GoodIn wsX9_weight wsX9_markOn := goodIn_r _ [20, 6, 7, 8, 4, 9, 10, 21, 22, 23, 14, 24, 25, 55, 56, 57, 58, 59, 60, 61, 62, 63, 64, 65, 66] (by decide +kernel) (by decide +kernel)
set_option maxRecDepth 20000 in
theorem gX9_weight_X9_markOn : GoodIn wsX9_weight (wsV RX9 293 RX9 yX9_markOn wsX9_markOn) := goodIn_app (goodIn_of _ (by decide +kernel)) ggX9_weight_X9_markOn
set_option maxRecDepth 20000 in
theorem ggX9_weight_X1_heft : GoodIn wsX9_weight wsX1_heft := goodIn_r _ [32, 33, 27, 34, 35, 36, 37, 38, 67, 68, 69, 70, 71, 72, 73, 74, 75, 76, 77, 78, 79, 80, 81, 82, 83, 84, 85, 86, 87, 88, 89, 90, 91, 92, 93, 94, 95, 96, 97, 98, 99, 100, 101, 102, 103, 104, 105, 106, 107, 108, 109, 110, 111, 112, 113, 114] (by decide +kernel) (by decide +kernel)
set_option maxRecDepth 20000 in
theorem gX9_weight_X1_heft_u296X1 : GoodIn wsX9_weight (va_wsO RX9 296 RX1 "CreepBoard$Mark" ⟨"CreepBoard$Mark", "heft", "()I"⟩ yX1_heft wsX1_heft) := goodIn_app (goodIn_of _ (by decide +kernel)) ggX9_weight_X1_heft
set_option maxRecDepth 20000 in
theorem ggX9_weight_X3_heft : GoodIn wsX9_weight wsX3_heft := goodIn_r _ [37, 38, 67, 68, 69, 70, 71, 72, 73, 74, 75, 76, 77, 78, 79, 80, 81, 82, 83, 84, 85, 86, 87, 88, 89, 90, 91, 92, 93, 94, 95, 96, 97, 98, 99, 100, 101, 102, 103, 104, 105, 106, 107, 108, 109, 110, 111, 112, 113, 114] (by decide +kernel) (by decide +kernel)
set_option maxRecDepth 20000 in
theorem gX9_weight_X3_heft : GoodIn wsX9_weight (wsV RX9 296 RX3 yX3_heft wsX3_heft) := goodIn_app (goodIn_of _ (by decide +kernel)) ggX9_weight_X3_heft
set_option maxRecDepth 20000 in
theorem ggX9_weight_X4_heft : GoodIn wsX9_weight wsX4_heft := goodIn_r _ [44, 45, 46, 27, 47, 35, 36, 37, 38, 89, 90, 91, 92, 93, 94, 95, 96, 97, 98, 99, 100, 101, 102, 103, 104, 105, 106, 107, 108, 109, 110, 111, 112, 113, 114, 67, 68, 69, 70, 71, 72, 73, 74, 75, 76, 77, 78, 79, 80, 81, 82, 83, 84, 85, 86, 87, 88] (by decide +kernel) (by decide +kernel)
set_option maxRecDepth 20000 in
theorem gX9_weight_X4_heft_u296X4 : GoodIn wsX9_weight (va_wsO RX9 296 RX4 "CreepBoard$Mark" ⟨"CreepBoard$Mark", "heft", "()I"⟩ yX4_heft wsX4_heft) := goodIn_app (goodIn_of _ (by decide +kernel)) ggX9_weight_X4_heft
set_option maxRecDepth 20000 in
theorem ggX9_weight_X8_heft : GoodIn wsX9_weight wsX8_heft := goodIn_r _ [51, 52, 53, 54, 42, 43, 44, 45, 46, 27, 47, 35, 36, 37, 38, 89, 90, 91, 92, 93, 94, 95, 96, 97, 98, 99, 100, 101, 102, 103, 104, 105, 106, 107, 108, 109, 110, 111, 112, 113, 114, 67, 68, 69, 70, 71, 72, 73, 74, 75, 76, 77, 78, 79, 80, 81, 82, 83, 84, 85, 86, 87, 88] (by decide +kernel) (by decide +kernel)
set_option maxRecDepth 20000 in
theorem gX9_weight_X8_heft_u296X8 : GoodIn wsX9_weight (va_wsO RX9 296 RX8 "CreepBoard$Mark" ⟨"CreepBoard$Mark", "heft", "()I"⟩ yX8_heft wsX8_heft) := goodIn_app (goodIn_of _ (by decide +kernel)) ggX9_weight_X8_heft
theorem dX9_weight_0 : decode cX9_weight 0 = .ok (.aload_n 0, 1) := by decide +kernel
theorem dX9_weight_1 : decode cX9_weight 1 = .ok (.iload_n 1, 1) := by decide +kernel
theorem dX9_weight_2 : decode cX9_weight 2 = .ok (.invokevirtual 290, 3) := by decide +kernel
theorem dX9_weight_5 : decode cX9_weight 5 = .ok (.istore_n 2, 1) := by decide +kernel
theorem dX9_weight_6 : decode cX9_weight 6 = .ok (.iload_n 2, 1) := by decide +kernel
theorem dX9_weight_7 : decode cX9_weight 7 = .ok (.ifCond .eq 9, 3) := by decide +kernel
theorem dX9_weight_10 : decode cX9_weight 10 = .ok (.sipush (-1000), 3) := by decide +kernel
theorem dX9_weight_13 : decode cX9_weight 13 = .ok (.iload_n 2, 1) := by decide +kernel
theorem dX9_weight_14 : decode cX9_weight 14 = .ok (.iadd, 1) := by decide +kernel
theorem dX9_weight_15 : decode cX9_weight 15 = .ok (.ireturn, 1) := by decide +kernel
theorem dX9_weight_16 : decode cX9_weight 16 = .ok (.aload_n 0, 1) := by decide +kernel
theorem dX9_weight_17 : decode cX9_weight 17 = .ok (.iload_n 1, 1) := by decide +kernel
theorem dX9_weight_18 : decode cX9_weight 18 = .ok (.invokevirtual 293, 3) := by decide +kernel
theorem dX9_weight_21 : decode cX9_weight 21 = .ok (.astore_n 3, 1) := by decide +kernel
theorem dX9_weight_22 : decode cX9_weight 22 = .ok (.aload_n 3, 1) := by decide +kernel
theorem dX9_weight_23 : decode cX9_weight 23 = .ok (.ifnonnull 9, 3) := by decide +kernel
theorem dX9_weight_26 : decode cX9_weight 26 = .ok (.sipush (-1012), 3) := by decide +kernel
theorem dX9_weight_29 : decode cX9_weight 29 = .ok (.goto 7, 3) := by decide +kernel
theorem dX9_weight_32 : decode cX9_weight 32 = .ok (.aload_n 3, 1) := by decide +kernel
theorem dX9_weight_33 : decode cX9_weight 33 = .ok (.invokevirtual 296, 3) := by decide +kernel
theorem dX9_weight_36 : decode cX9_weight 36 = .ok (.ireturn, 1) := by decide +kernel
theorem dX9_toss_0 : decode cX9_toss 0 = .ok (.aload_n 0, 1) := by decide +kernel
theorem dX9_toss_1 : decode cX9_toss 1 = .ok (.iload_n 1, 1) := by decide +kernel
theorem dX9_toss_2 : decode cX9_toss 2 = .ok (.invokevirtual 290, 3) := by decide +kernel
theorem dX9_toss_5 : decode cX9_toss 5 = .ok (.istore_n 2, 1) := by decide +kernel
theorem dX9_toss_6 : decode cX9_toss 6 = .ok (.iload_n 2, 1) := by decide +kernel
theorem dX9_toss_7 : decode cX9_toss 7 = .ok (.ifCond .eq 5, 3) := by decide +kernel
theorem dX9_toss_10 : decode cX9_toss 10 = .ok (.iload_n 2, 1) := by decide +kernel
theorem dX9_toss_11 : decode cX9_toss 11 = .ok (.ireturn, 1) := by decide +kernel
theorem dX9_toss_12 : decode cX9_toss 12 = .ok (.aload_n 0, 1) := by decide +kernel
theorem dX9_toss_13 : decode cX9_toss 13 = .ok (.iload_n 1, 1) := by decide +kernel
theorem dX9_toss_14 : decode cX9_toss 14 = .ok (.invokevirtual 293, 3) := by decide +kernel
theorem dX9_toss_17 : decode cX9_toss 17 = .ok (.astore_n 3, 1) := by decide +kernel
theorem dX9_toss_18 : decode cX9_toss 18 = .ok (.aload_n 3, 1) := by decide +kernel
theorem dX9_toss_19 : decode cX9_toss 19 = .ok (.ifnonnull 6, 3) := by decide +kernel
theorem dX9_toss_22 : decode cX9_toss 22 = .ok (.bipush (-12), 2) := by decide +kernel
theorem dX9_toss_24 : decode cX9_toss 24 = .ok (.ireturn, 1) := by decide +kernel
theorem dX9_toss_25 : decode cX9_toss 25 = .ok (.aload_n 3, 1) := by decide +kernel
theorem dX9_toss_26 : decode cX9_toss 26 = .ok (.invokevirtual 299, 3) := by decide +kernel
theorem dX9_toss_29 : decode cX9_toss 29 = .ok (.goto 10, 3) := by decide +kernel
theorem dX9_toss_32 : decode cX9_toss 32 = .ok (.astore 4, 2) := by decide +kernel
theorem dX9_toss_34 : decode cX9_toss 34 = .ok (.aload_n 3, 1) := by decide +kernel
theorem dX9_toss_35 : decode cX9_toss 35 = .ok (.invokevirtual 302, 3) := by decide +kernel
theorem dX9_toss_38 : decode cX9_toss 38 = .ok (.ireturn, 1) := by decide +kernel
theorem dX9_toss_39 : decode cX9_toss 39 = .ok (.bipush (-15), 2) := by decide +kernel
theorem dX9_toss_41 : decode cX9_toss 41 = .ok (.ireturn, 1) := by decide +kernel
theorem dX9_within_0 : decode cX9_within 0 = .ok (.iload_n 0, 1) := by decide +kernel
theorem dX9_within_1 : decode cX9_within 1 = .ok (.iload_n 1, 1) := by decide +kernel
theorem dX9_within_2 : decode cX9_within 2 = .ok (.ineg, 1) := by decide +kernel
theorem dX9_within_3 : decode cX9_within 3 = .ok (.if_icmp .lt 12, 3) := by decide +kernel
theorem dX9_within_6 : decode cX9_within 6 = .ok (.iload_n 0, 1) := by decide +kernel
theorem dX9_within_7 : decode cX9_within 7 = .ok (.iload_n 1, 1) := by decide +kernel
theorem dX9_within_8 : decode cX9_within 8 = .ok (.if_icmp .gt 7, 3) := by decide +kernel
theorem dX9_within_11 : decode cX9_within 11 = .ok (.iconst 1, 1) := by decide +kernel
theorem dX9_within_12 : decode cX9_within 12 = .ok (.goto 4, 3) := by decide +kernel
theorem dX9_within_15 : decode cX9_within 15 = .ok (.iconst 0, 1) := by decide +kernel
theorem dX9_within_16 : decode cX9_within 16 = .ok (.ireturn, 1) := by decide +kernel
theorem dX9_isEpoch_0 : decode cX9_isEpoch 0 = .ok (.iload_n 0, 1) := by decide +kernel
theorem dX9_isEpoch_1 : decode cX9_isEpoch 1 = .ok (.ifCond .lt 13, 3) := by decide +kernel
theorem dX9_isEpoch_4 : decode cX9_isEpoch 4 = .ok (.iload_n 0, 1) := by decide +kernel
theorem dX9_isEpoch_5 : decode cX9_isEpoch 5 = .ok (.bipush 40, 2) := by decide +kernel
theorem dX9_isEpoch_7 : decode cX9_isEpoch 7 = .ok (.if_icmp .ge 7, 3) := by decide +kernel
theorem dX9_isEpoch_10 : decode cX9_isEpoch 10 = .ok (.iconst 1, 1) := by decide +kernel
theorem dX9_isEpoch_11 : decode cX9_isEpoch 11 = .ok (.goto 4, 3) := by decide +kernel
theorem dX9_isEpoch_14 : decode cX9_isEpoch 14 = .ok (.iconst 0, 1) := by decide +kernel
theorem dX9_isEpoch_15 : decode cX9_isEpoch 15 = .ok (.ireturn, 1) := by decide +kernel
theorem dX9_isSide_0 : decode cX9_isSide 0 = .ok (.iload_n 0, 1) := by decide +kernel
theorem dX9_isSide_1 : decode cX9_isSide 1 = .ok (.ifCond .lt 12, 3) := by decide +kernel
theorem dX9_isSide_4 : decode cX9_isSide 4 = .ok (.iload_n 0, 1) := by decide +kernel
theorem dX9_isSide_5 : decode cX9_isSide 5 = .ok (.iconst 2, 1) := by decide +kernel
theorem dX9_isSide_6 : decode cX9_isSide 6 = .ok (.if_icmp .ge 7, 3) := by decide +kernel
theorem dX9_isSide_9 : decode cX9_isSide 9 = .ok (.iconst 1, 1) := by decide +kernel
theorem dX9_isSide_10 : decode cX9_isSide 10 = .ok (.goto 4, 3) := by decide +kernel
theorem dX9_isSide_13 : decode cX9_isSide 13 = .ok (.iconst 0, 1) := by decide +kernel
theorem dX9_isSide_14 : decode cX9_isSide 14 = .ok (.ireturn, 1) := by decide +kernel
theorem dX9_isCut_0 : decode cX9_isCut 0 = .ok (.iload_n 0, 1) := by decide +kernel
theorem dX9_isCut_1 : decode cX9_isCut 1 = .ok (.ifCond .lt 12, 3) := by decide +kernel
theorem dX9_isCut_4 : decode cX9_isCut 4 = .ok (.iload_n 0, 1) := by decide +kernel
theorem dX9_isCut_5 : decode cX9_isCut 5 = .ok (.iconst 3, 1) := by decide +kernel
theorem dX9_isCut_6 : decode cX9_isCut 6 = .ok (.if_icmp .ge 7, 3) := by decide +kernel
theorem dX9_isCut_9 : decode cX9_isCut 9 = .ok (.iconst 1, 1) := by decide +kernel
theorem dX9_isCut_10 : decode cX9_isCut 10 = .ok (.goto 4, 3) := by decide +kernel
theorem dX9_isCut_13 : decode cX9_isCut 13 = .ok (.iconst 0, 1) := by decide +kernel
theorem dX9_isCut_14 : decode cX9_isCut 14 = .ok (.ireturn, 1) := by decide +kernel
theorem dX9_markAt_0 : decode cX9_markAt 0 = .ok (.iload_n 1, 1) := by decide +kernel
theorem dX9_markAt_1 : decode cX9_markAt 1 = .ok (.ifCond .lt 26, 3) := by decide +kernel
theorem dX9_markAt_4 : decode cX9_markAt 4 = .ok (.iload_n 1, 1) := by decide +kernel
theorem dX9_markAt_5 : decode cX9_markAt 5 = .ok (.aload_n 0, 1) := by decide +kernel
theorem dX9_markAt_6 : decode cX9_markAt 6 = .ok (.getfield 54, 3) := by decide +kernel
theorem dX9_markAt_9 : decode cX9_markAt 9 = .ok (.if_icmp .ge 18, 3) := by decide +kernel
theorem dX9_markAt_12 : decode cX9_markAt 12 = .ok (.iload_n 1, 1) := by decide +kernel
theorem dX9_markAt_13 : decode cX9_markAt 13 = .ok (.bipush 10, 2) := by decide +kernel
theorem dX9_markAt_15 : decode cX9_markAt 15 = .ok (.if_icmp .ge 12, 3) := by decide +kernel
theorem dX9_markAt_18 : decode cX9_markAt 18 = .ok (.aload_n 0, 1) := by decide +kernel
theorem dX9_markAt_19 : decode cX9_markAt 19 = .ok (.getfield 11, 3) := by decide +kernel
theorem dX9_markAt_22 : decode cX9_markAt 22 = .ok (.iload_n 1, 1) := by decide +kernel
theorem dX9_markAt_23 : decode cX9_markAt 23 = .ok (.aaload, 1) := by decide +kernel
theorem dX9_markAt_24 : decode cX9_markAt 24 = .ok (.goto 4, 3) := by decide +kernel
theorem dX9_markAt_27 : decode cX9_markAt 27 = .ok (.aconst_null, 1) := by decide +kernel
theorem dX9_markAt_28 : decode cX9_markAt 28 = .ok (.areturn, 1) := by decide +kernel
theorem dX9_shelfAt_0 : decode cX9_shelfAt 0 = .ok (.iload_n 1, 1) := by decide +kernel
theorem dX9_shelfAt_1 : decode cX9_shelfAt 1 = .ok (.ifCond .lt 18, 3) := by decide +kernel
theorem dX9_shelfAt_4 : decode cX9_shelfAt 4 = .ok (.iload_n 1, 1) := by decide +kernel
theorem dX9_shelfAt_5 : decode cX9_shelfAt 5 = .ok (.bipush 8, 2) := by decide +kernel
theorem dX9_shelfAt_7 : decode cX9_shelfAt 7 = .ok (.if_icmp .ge 12, 3) := by decide +kernel
theorem dX9_shelfAt_10 : decode cX9_shelfAt 10 = .ok (.aload_n 0, 1) := by decide +kernel
theorem dX9_shelfAt_11 : decode cX9_shelfAt 11 = .ok (.getfield 45, 3) := by decide +kernel
theorem dX9_shelfAt_14 : decode cX9_shelfAt 14 = .ok (.iload_n 1, 1) := by decide +kernel
theorem dX9_shelfAt_15 : decode cX9_shelfAt 15 = .ok (.aaload, 1) := by decide +kernel
theorem dX9_shelfAt_16 : decode cX9_shelfAt 16 = .ok (.goto 4, 3) := by decide +kernel
theorem dX9_shelfAt_19 : decode cX9_shelfAt 19 = .ok (.aconst_null, 1) := by decide +kernel
theorem dX9_shelfAt_20 : decode cX9_shelfAt 20 = .ok (.areturn, 1) := by decide +kernel
set_option maxRecDepth 20000 in
theorem ggX9_markOfKind_X4_init : GoodIn wsX9_markOfKind wsX4_init := goodIn_r _ [15, 16, 17, 12, 18, 19, 20, 21, 22, 23, 24, 25, 26, 27, 28, 29, 30, 31, 32, 33, 69, 70, 71, 72, 73, 74, 75, 76, 77, 78, 79, 80, 81, 82, 83, 84, 85, 86, 87, 88, 89, 90, 43, 44, 45, 46, 47, 48, 49, 50, 51, 52, 53, 54, 55, 56, 57, 58, 59, 60, 61, 62, 63, 64, 65, 66, 67, 68] (by decide +kernel) (by decide +kernel)
set_option maxRecDepth 20000 in
theorem gX9_markOfKind_X4_init : GoodIn wsX9_markOfKind (wsX4_init) := ggX9_markOfKind_X4_init
set_option maxRecDepth 20000 in
theorem ggX9_markOfKind_X8_init : GoodIn wsX9_markOfKind wsX8_init := goodIn_r _ [36, 37, 14, 3, 15, 16, 17, 12, 18, 19, 20, 21, 22, 23, 24, 25, 26, 27, 28, 29, 30, 31, 32, 33, 69, 70, 71, 72, 73, 74, 75, 76, 77, 78, 79, 80, 81, 82, 83, 84, 85, 86, 87, 88, 89, 90, 43, 44, 45, 46, 47, 48, 49, 50, 51, 52, 53, 54, 55, 56, 57, 58, 59, 60, 61, 62, 63, 64, 65, 66, 67, 68] (by decide +kernel) (by decide +kernel)
set_option maxRecDepth 20000 in
theorem gX9_markOfKind_X8_init : GoodIn wsX9_markOfKind (wsX8_init) := ggX9_markOfKind_X8_init
set_option maxRecDepth 20000 in
theorem ggX9_markOfKind_X1_init : GoodIn wsX9_markOfKind wsX1_init := goodIn_r _ [40, 41, 17, 12, 18, 19, 20, 21, 22, 23, 24, 25, 26, 27, 28, 29, 30, 31, 32, 33, 69, 70, 71, 72, 73, 74, 75, 76, 77, 78, 79, 80, 81, 82, 83, 84, 85, 86, 87, 88, 89, 90, 43, 44, 45, 46, 47, 48, 49, 50, 51, 52, 53, 54, 55, 56, 57, 58, 59, 60, 61, 62, 63, 64, 65, 66, 67, 68] (by decide +kernel) (by decide +kernel)
set_option maxRecDepth 20000 in
theorem gX9_markOfKind_X1_init : GoodIn wsX9_markOfKind (wsX1_init) := ggX9_markOfKind_X1_init
set_option maxRecDepth 20000 in
theorem ggX9_markOfKind_X3_init : GoodIn wsX9_markOfKind wsX3_init := goodIn_r _ [18, 19, 20, 21, 22, 23, 24, 25, 26, 27, 28, 29, 30, 31, 32, 33, 69, 70, 71, 72, 73, 74, 75, 76, 77, 78, 79, 80, 81, 82, 83, 84, 85, 86, 87, 88, 89, 90, 43, 44, 45, 46, 47, 48, 49, 50, 51, 52, 53, 54, 55, 56, 57, 58, 59, 60, 61, 62, 63, 64, 65, 66, 67, 68] (by decide +kernel) (by decide +kernel)
set_option maxRecDepth 20000 in
theorem gX9_markOfKind_X3_init : GoodIn wsX9_markOfKind (wsX3_init) := ggX9_markOfKind_X3_init
theorem dX9_markOfKind_0 : decode cX9_markOfKind 0 = .ok (.iload_n 0, 1) := by decide +kernel
theorem dX9_markOfKind_1 : decode cX9_markOfKind 1 = .ok (.tableswitch 60 1 3 #[27, 38, 49], 27) := by decide +kernel
theorem dX9_markOfKind_28 : decode cX9_markOfKind 28 = .ok (.new 73, 3) := by decide +kernel
theorem dX9_markOfKind_31 : decode cX9_markOfKind 31 = .ok (.dup, 1) := by decide +kernel
theorem dX9_markOfKind_32 : decode cX9_markOfKind 32 = .ok (.iload_n 1, 1) := by decide +kernel
theorem dX9_markOfKind_33 : decode cX9_markOfKind 33 = .ok (.iload_n 2, 1) := by decide +kernel
theorem dX9_markOfKind_34 : decode cX9_markOfKind 34 = .ok (.iload_n 3, 1) := by decide +kernel
theorem dX9_markOfKind_35 : decode cX9_markOfKind 35 = .ok (.invokespecial 305, 3) := by decide +kernel
theorem dX9_markOfKind_38 : decode cX9_markOfKind 38 = .ok (.areturn, 1) := by decide +kernel
theorem dX9_markOfKind_39 : decode cX9_markOfKind 39 = .ok (.new 308, 3) := by decide +kernel
theorem dX9_markOfKind_42 : decode cX9_markOfKind 42 = .ok (.dup, 1) := by decide +kernel
theorem dX9_markOfKind_43 : decode cX9_markOfKind 43 = .ok (.iload_n 1, 1) := by decide +kernel
theorem dX9_markOfKind_44 : decode cX9_markOfKind 44 = .ok (.iload_n 2, 1) := by decide +kernel
theorem dX9_markOfKind_45 : decode cX9_markOfKind 45 = .ok (.iload_n 3, 1) := by decide +kernel
theorem dX9_markOfKind_46 : decode cX9_markOfKind 46 = .ok (.invokespecial 310, 3) := by decide +kernel
theorem dX9_markOfKind_49 : decode cX9_markOfKind 49 = .ok (.areturn, 1) := by decide +kernel
theorem dX9_markOfKind_50 : decode cX9_markOfKind 50 = .ok (.new 311, 3) := by decide +kernel
theorem dX9_markOfKind_53 : decode cX9_markOfKind 53 = .ok (.dup, 1) := by decide +kernel
theorem dX9_markOfKind_54 : decode cX9_markOfKind 54 = .ok (.iload_n 1, 1) := by decide +kernel
theorem dX9_markOfKind_55 : decode cX9_markOfKind 55 = .ok (.iload_n 2, 1) := by decide +kernel
theorem dX9_markOfKind_56 : decode cX9_markOfKind 56 = .ok (.iload_n 3, 1) := by decide +kernel
theorem dX9_markOfKind_57 : decode cX9_markOfKind 57 = .ok (.invokespecial 313, 3) := by decide +kernel
theorem dX9_markOfKind_60 : decode cX9_markOfKind 60 = .ok (.areturn, 1) := by decide +kernel
theorem dX9_markOfKind_61 : decode cX9_markOfKind 61 = .ok (.new 9, 3) := by decide +kernel
theorem dX9_markOfKind_64 : decode cX9_markOfKind 64 = .ok (.dup, 1) := by decide +kernel
theorem dX9_markOfKind_65 : decode cX9_markOfKind 65 = .ok (.iload_n 1, 1) := by decide +kernel
theorem dX9_markOfKind_66 : decode cX9_markOfKind 66 = .ok (.iload_n 2, 1) := by decide +kernel
theorem dX9_markOfKind_67 : decode cX9_markOfKind 67 = .ok (.iload_n 3, 1) := by decide +kernel
theorem dX9_markOfKind_68 : decode cX9_markOfKind 68 = .ok (.invokespecial 314, 3) := by decide +kernel
theorem dX9_markOfKind_71 : decode cX9_markOfKind 71 = .ok (.areturn, 1) := by decide +kernel
set_option maxRecDepth 20000 in
theorem ggX9_forgetMotion_X0_forget : GoodIn wsX9_forgetMotion wsX0_forget := goodIn_r _ [7, 8, 23, 24, 25, 26, 27, 28] (by decide +kernel) (by decide +kernel)
set_option maxRecDepth 20000 in
theorem gX9_forgetMotion_X0_forget : GoodIn wsX9_forgetMotion (wsV RX9 315 RX0 yX0_forget wsX0_forget) := goodIn_app (goodIn_of _ (by decide +kernel)) ggX9_forgetMotion_X0_forget
set_option maxRecDepth 20000 in
theorem ggX9_forgetMotion_X7_forget : GoodIn wsX9_forgetMotion wsX7_forget := goodIn_r _ [13, 14, 29, 30, 31, 32, 33, 34] (by decide +kernel) (by decide +kernel)
set_option maxRecDepth 20000 in
theorem gX9_forgetMotion_X7_forget : GoodIn wsX9_forgetMotion (wsV RX9 198 RX7 yX7_forget wsX7_forget) := goodIn_app (goodIn_of _ (by decide +kernel)) ggX9_forgetMotion_X7_forget
theorem dX9_forgetMotion_0 : decode cX9_forgetMotion 0 = .ok (.aload_n 0, 1) := by decide +kernel
theorem dX9_forgetMotion_1 : decode cX9_forgetMotion 1 = .ok (.getfield 25, 3) := by decide +kernel
theorem dX9_forgetMotion_4 : decode cX9_forgetMotion 4 = .ok (.invokevirtual 315, 3) := by decide +kernel
theorem dX9_forgetMotion_7 : decode cX9_forgetMotion 7 = .ok (.aload_n 0, 1) := by decide +kernel
theorem dX9_forgetMotion_8 : decode cX9_forgetMotion 8 = .ok (.getfield 32, 3) := by decide +kernel
theorem dX9_forgetMotion_11 : decode cX9_forgetMotion 11 = .ok (.invokevirtual 198, 3) := by decide +kernel
theorem dX9_forgetMotion_14 : decode cX9_forgetMotion 14 = .ok (.return_, 1) := by decide +kernel
set_option maxRecDepth 20000 in
theorem ggX9_eastInFrame_X3_speed : GoodIn wsX9_eastInFrame wsX3_speed := goodIn_r _ [6, 7, 22, 23, 24, 25, 26, 27, 28, 29, 30, 31, 32, 33, 34, 35, 36, 37, 38, 39, 40, 41, 42, 43, 44, 45, 46, 47, 48, 49, 50, 51, 52, 53, 54, 55, 56, 57, 58, 59, 60, 61, 62, 63, 64, 65, 66, 67, 68, 69] (by decide +kernel) (by decide +kernel)
set_option maxRecDepth 20000 in
theorem gX9_eastInFrame_X3_speed_u149X1 : GoodIn wsX9_eastInFrame (va_wsU RX9 149 RX1 "CreepBoard$Mark" ⟨"CreepBoard$Mark", "speed", "(I)I"⟩ yX3_speed wsX3_speed) := goodIn_app (goodIn_of _ (by decide +kernel)) ggX9_eastInFrame_X3_speed
set_option maxRecDepth 20000 in
theorem gX9_eastInFrame_X3_speed : GoodIn wsX9_eastInFrame (wsV RX9 149 RX3 yX3_speed wsX3_speed) := goodIn_app (goodIn_of _ (by decide +kernel)) ggX9_eastInFrame_X3_speed
set_option maxRecDepth 20000 in
theorem gX9_eastInFrame_X3_speed_u149X4 : GoodIn wsX9_eastInFrame (va_wsU RX9 149 RX4 "CreepBoard$Mark" ⟨"CreepBoard$Mark", "speed", "(I)I"⟩ yX3_speed wsX3_speed) := goodIn_app (goodIn_of _ (by decide +kernel)) ggX9_eastInFrame_X3_speed
set_option maxRecDepth 20000 in
theorem gX9_eastInFrame_X3_speed_u149X8 : GoodIn wsX9_eastInFrame (va_wsU RX9 149 RX8 "CreepBoard$Mark" ⟨"CreepBoard$Mark", "speed", "(I)I"⟩ yX3_speed wsX3_speed) := goodIn_app (goodIn_of _ (by decide +kernel)) ggX9_eastInFrame_X3_speed
set_option maxRecDepth 20000 in
theorem ggX9_eastInFrame_X3_placeY : GoodIn wsX9_eastInFrame wsX3_placeY := goodIn_r _ [16, 17, 22, 23, 24, 25, 26, 27, 28, 29, 30, 31, 32, 33, 34, 35, 36, 37, 38, 39, 40, 41, 42, 43, 44, 45, 46, 47, 48, 49, 50, 51, 52, 53, 54, 55, 56, 57, 58, 59, 60, 61, 62, 63, 64, 65, 66, 67, 68, 69] (by decide +kernel) (by decide +kernel)
set_option maxRecDepth 20000 in
theorem gX9_eastInFrame_X3_placeY_u316X1 : GoodIn wsX9_eastInFrame (va_wsU RX9 316 RX1 "CreepBoard$Mark" ⟨"CreepBoard$Mark", "placeY", "()I"⟩ yX3_placeY wsX3_placeY) := goodIn_app (goodIn_of _ (by decide +kernel)) ggX9_eastInFrame_X3_placeY
set_option maxRecDepth 20000 in
theorem gX9_eastInFrame_X3_placeY : GoodIn wsX9_eastInFrame (wsV RX9 316 RX3 yX3_placeY wsX3_placeY) := goodIn_app (goodIn_of _ (by decide +kernel)) ggX9_eastInFrame_X3_placeY
set_option maxRecDepth 20000 in
theorem gX9_eastInFrame_X3_placeY_u316X4 : GoodIn wsX9_eastInFrame (va_wsU RX9 316 RX4 "CreepBoard$Mark" ⟨"CreepBoard$Mark", "placeY", "()I"⟩ yX3_placeY wsX3_placeY) := goodIn_app (goodIn_of _ (by decide +kernel)) ggX9_eastInFrame_X3_placeY
set_option maxRecDepth 20000 in
theorem gX9_eastInFrame_X3_placeY_u316X8 : GoodIn wsX9_eastInFrame (va_wsU RX9 316 RX8 "CreepBoard$Mark" ⟨"CreepBoard$Mark", "placeY", "()I"⟩ yX3_placeY wsX3_placeY) := goodIn_app (goodIn_of _ (by decide +kernel)) ggX9_eastInFrame_X3_placeY
theorem dX9_eastInFrame_0 : decode cX9_eastInFrame 0 = .ok (.aload_n 0, 1) := by decide +kernel
theorem dX9_eastInFrame_1 : decode cX9_eastInFrame 1 = .ok (.iconst 0, 1) := by decide +kernel
theorem dX9_eastInFrame_2 : decode cX9_eastInFrame 2 = .ok (.invokevirtual 149, 3) := by decide +kernel
theorem dX9_eastInFrame_5 : decode cX9_eastInFrame 5 = .ok (.iload_n 1, 1) := by decide +kernel
theorem dX9_eastInFrame_6 : decode cX9_eastInFrame 6 = .ok (.iload_n 2, 1) := by decide +kernel
theorem dX9_eastInFrame_7 : decode cX9_eastInFrame 7 = .ok (.aload_n 0, 1) := by decide +kernel
theorem dX9_eastInFrame_8 : decode cX9_eastInFrame 8 = .ok (.invokevirtual 316, 3) := by decide +kernel
theorem dX9_eastInFrame_11 : decode cX9_eastInFrame 11 = .ok (.imul, 1) := by decide +kernel
theorem dX9_eastInFrame_12 : decode cX9_eastInFrame 12 = .ok (.isub, 1) := by decide +kernel
theorem dX9_eastInFrame_13 : decode cX9_eastInFrame 13 = .ok (.isub, 1) := by decide +kernel
theorem dX9_eastInFrame_14 : decode cX9_eastInFrame 14 = .ok (.ireturn, 1) := by decide +kernel
set_option maxRecDepth 20000 in
theorem ggX9_northInFrame_X3_speed : GoodIn wsX9_northInFrame wsX3_speed := goodIn_r _ [6, 7, 22, 23, 24, 25, 26, 27, 28, 29, 30, 31, 32, 33, 34, 35, 36, 37, 38, 39, 40, 41, 42, 43, 44, 45, 46, 47, 48, 49, 50, 51, 52, 53, 54, 55, 56, 57, 58, 59, 60, 61, 62, 63, 64, 65, 66, 67, 68, 69] (by decide +kernel) (by decide +kernel)
set_option maxRecDepth 20000 in
theorem gX9_northInFrame_X3_speed_u149X1 : GoodIn wsX9_northInFrame (va_wsU RX9 149 RX1 "CreepBoard$Mark" ⟨"CreepBoard$Mark", "speed", "(I)I"⟩ yX3_speed wsX3_speed) := goodIn_app (goodIn_of _ (by decide +kernel)) ggX9_northInFrame_X3_speed
set_option maxRecDepth 20000 in
theorem gX9_northInFrame_X3_speed : GoodIn wsX9_northInFrame (wsV RX9 149 RX3 yX3_speed wsX3_speed) := goodIn_app (goodIn_of _ (by decide +kernel)) ggX9_northInFrame_X3_speed
set_option maxRecDepth 20000 in
theorem gX9_northInFrame_X3_speed_u149X4 : GoodIn wsX9_northInFrame (va_wsU RX9 149 RX4 "CreepBoard$Mark" ⟨"CreepBoard$Mark", "speed", "(I)I"⟩ yX3_speed wsX3_speed) := goodIn_app (goodIn_of _ (by decide +kernel)) ggX9_northInFrame_X3_speed
set_option maxRecDepth 20000 in
theorem gX9_northInFrame_X3_speed_u149X8 : GoodIn wsX9_northInFrame (va_wsU RX9 149 RX8 "CreepBoard$Mark" ⟨"CreepBoard$Mark", "speed", "(I)I"⟩ yX3_speed wsX3_speed) := goodIn_app (goodIn_of _ (by decide +kernel)) ggX9_northInFrame_X3_speed
set_option maxRecDepth 20000 in
theorem ggX9_northInFrame_X3_placeX : GoodIn wsX9_northInFrame wsX3_placeX := goodIn_r _ [16, 17, 22, 23, 24, 25, 26, 27, 28, 29, 30, 31, 32, 33, 34, 35, 36, 37, 38, 39, 40, 41, 42, 43, 44, 45, 46, 47, 48, 49, 50, 51, 52, 53, 54, 55, 56, 57, 58, 59, 60, 61, 62, 63, 64, 65, 66, 67, 68, 69] (by decide +kernel) (by decide +kernel)
set_option maxRecDepth 20000 in
theorem gX9_northInFrame_X3_placeX_u319X1 : GoodIn wsX9_northInFrame (va_wsU RX9 319 RX1 "CreepBoard$Mark" ⟨"CreepBoard$Mark", "placeX", "()I"⟩ yX3_placeX wsX3_placeX) := goodIn_app (goodIn_of _ (by decide +kernel)) ggX9_northInFrame_X3_placeX
set_option maxRecDepth 20000 in
theorem gX9_northInFrame_X3_placeX : GoodIn wsX9_northInFrame (wsV RX9 319 RX3 yX3_placeX wsX3_placeX) := goodIn_app (goodIn_of _ (by decide +kernel)) ggX9_northInFrame_X3_placeX
set_option maxRecDepth 20000 in
theorem gX9_northInFrame_X3_placeX_u319X4 : GoodIn wsX9_northInFrame (va_wsU RX9 319 RX4 "CreepBoard$Mark" ⟨"CreepBoard$Mark", "placeX", "()I"⟩ yX3_placeX wsX3_placeX) := goodIn_app (goodIn_of _ (by decide +kernel)) ggX9_northInFrame_X3_placeX
set_option maxRecDepth 20000 in
theorem gX9_northInFrame_X3_placeX_u319X8 : GoodIn wsX9_northInFrame (va_wsU RX9 319 RX8 "CreepBoard$Mark" ⟨"CreepBoard$Mark", "placeX", "()I"⟩ yX3_placeX wsX3_placeX) := goodIn_app (goodIn_of _ (by decide +kernel)) ggX9_northInFrame_X3_placeX
theorem dX9_northInFrame_0 : decode cX9_northInFrame 0 = .ok (.aload_n 0, 1) := by decide +kernel
theorem dX9_northInFrame_1 : decode cX9_northInFrame 1 = .ok (.iconst 1, 1) := by decide +kernel
theorem dX9_northInFrame_2 : decode cX9_northInFrame 2 = .ok (.invokevirtual 149, 3) := by decide +kernel
theorem dX9_northInFrame_5 : decode cX9_northInFrame 5 = .ok (.iload_n 1, 1) := by decide +kernel
theorem dX9_northInFrame_6 : decode cX9_northInFrame 6 = .ok (.iload_n 2, 1) := by decide +kernel
theorem dX9_northInFrame_7 : decode cX9_northInFrame 7 = .ok (.aload_n 0, 1) := by decide +kernel
theorem dX9_northInFrame_8 : decode cX9_northInFrame 8 = .ok (.invokevirtual 319, 3) := by decide +kernel
theorem dX9_northInFrame_11 : decode cX9_northInFrame 11 = .ok (.imul, 1) := by decide +kernel
theorem dX9_northInFrame_12 : decode cX9_northInFrame 12 = .ok (.iadd, 1) := by decide +kernel
theorem dX9_northInFrame_13 : decode cX9_northInFrame 13 = .ok (.isub, 1) := by decide +kernel
theorem dX9_northInFrame_14 : decode cX9_northInFrame 14 = .ok (.ireturn, 1) := by decide +kernel
set_option maxRecDepth 20000 in
theorem ggX9_areaTwice_X3_placeX : GoodIn wsX9_areaTwice wsX3_placeX := goodIn_r _ [6, 7, 22, 23, 24, 25, 26, 27, 28, 29, 30, 31, 32, 33, 34, 35, 36, 37, 38, 39, 40, 41, 42, 43, 44, 45, 46, 47, 48, 49, 50, 51, 52, 53, 54, 55, 56, 57, 58, 59, 60, 61, 62, 63, 64, 65, 66, 67, 68, 69] (by decide +kernel) (by decide +kernel)
set_option maxRecDepth 20000 in
theorem gX9_areaTwice_X3_placeX_u319X1 : GoodIn wsX9_areaTwice (va_wsU RX9 319 RX1 "CreepBoard$Mark" ⟨"CreepBoard$Mark", "placeX", "()I"⟩ yX3_placeX wsX3_placeX) := goodIn_app (goodIn_of _ (by decide +kernel)) ggX9_areaTwice_X3_placeX
set_option maxRecDepth 20000 in
theorem gX9_areaTwice_X3_placeX : GoodIn wsX9_areaTwice (wsV RX9 319 RX3 yX3_placeX wsX3_placeX) := goodIn_app (goodIn_of _ (by decide +kernel)) ggX9_areaTwice_X3_placeX
set_option maxRecDepth 20000 in
theorem gX9_areaTwice_X3_placeX_u319X4 : GoodIn wsX9_areaTwice (va_wsU RX9 319 RX4 "CreepBoard$Mark" ⟨"CreepBoard$Mark", "placeX", "()I"⟩ yX3_placeX wsX3_placeX) := goodIn_app (goodIn_of _ (by decide +kernel)) ggX9_areaTwice_X3_placeX
set_option maxRecDepth 20000 in
theorem gX9_areaTwice_X3_placeX_u319X8 : GoodIn wsX9_areaTwice (va_wsU RX9 319 RX8 "CreepBoard$Mark" ⟨"CreepBoard$Mark", "placeX", "()I"⟩ yX3_placeX wsX3_placeX) := goodIn_app (goodIn_of _ (by decide +kernel)) ggX9_areaTwice_X3_placeX
set_option maxRecDepth 20000 in
theorem ggX9_areaTwice_X3_placeY : GoodIn wsX9_areaTwice wsX3_placeY := goodIn_r _ [16, 17, 22, 23, 24, 25, 26, 27, 28, 29, 30, 31, 32, 33, 34, 35, 36, 37, 38, 39, 40, 41, 42, 43, 44, 45, 46, 47, 48, 49, 50, 51, 52, 53, 54, 55, 56, 57, 58, 59, 60, 61, 62, 63, 64, 65, 66, 67, 68, 69] (by decide +kernel) (by decide +kernel)
set_option maxRecDepth 20000 in
theorem gX9_areaTwice_X3_placeY_u316X1 : GoodIn wsX9_areaTwice (va_wsU RX9 316 RX1 "CreepBoard$Mark" ⟨"CreepBoard$Mark", "placeY", "()I"⟩ yX3_placeY wsX3_placeY) := goodIn_app (goodIn_of _ (by decide +kernel)) ggX9_areaTwice_X3_placeY
set_option maxRecDepth 20000 in
theorem gX9_areaTwice_X3_placeY : GoodIn wsX9_areaTwice (wsV RX9 316 RX3 yX3_placeY wsX3_placeY) := goodIn_app (goodIn_of _ (by decide +kernel)) ggX9_areaTwice_X3_placeY
set_option maxRecDepth 20000 in
theorem gX9_areaTwice_X3_placeY_u316X4 : GoodIn wsX9_areaTwice (va_wsU RX9 316 RX4 "CreepBoard$Mark" ⟨"CreepBoard$Mark", "placeY", "()I"⟩ yX3_placeY wsX3_placeY) := goodIn_app (goodIn_of _ (by decide +kernel)) ggX9_areaTwice_X3_placeY
set_option maxRecDepth 20000 in
theorem gX9_areaTwice_X3_placeY_u316X8 : GoodIn wsX9_areaTwice (va_wsU RX9 316 RX8 "CreepBoard$Mark" ⟨"CreepBoard$Mark", "placeY", "()I"⟩ yX3_placeY wsX3_placeY) := goodIn_app (goodIn_of _ (by decide +kernel)) ggX9_areaTwice_X3_placeY
theorem dX9_areaTwice_0 : decode cX9_areaTwice 0 = .ok (.aload_n 1, 1) := by decide +kernel
theorem dX9_areaTwice_1 : decode cX9_areaTwice 1 = .ok (.invokevirtual 319, 3) := by decide +kernel
theorem dX9_areaTwice_4 : decode cX9_areaTwice 4 = .ok (.aload_n 0, 1) := by decide +kernel
theorem dX9_areaTwice_5 : decode cX9_areaTwice 5 = .ok (.invokevirtual 319, 3) := by decide +kernel
theorem dX9_areaTwice_8 : decode cX9_areaTwice 8 = .ok (.isub, 1) := by decide +kernel
theorem dX9_areaTwice_9 : decode cX9_areaTwice 9 = .ok (.i2l, 1) := by decide +kernel
theorem dX9_areaTwice_10 : decode cX9_areaTwice 10 = .ok (.lstore_n 3, 1) := by decide +kernel
theorem dX9_areaTwice_11 : decode cX9_areaTwice 11 = .ok (.aload_n 1, 1) := by decide +kernel
theorem dX9_areaTwice_12 : decode cX9_areaTwice 12 = .ok (.invokevirtual 316, 3) := by decide +kernel
theorem dX9_areaTwice_15 : decode cX9_areaTwice 15 = .ok (.aload_n 0, 1) := by decide +kernel
theorem dX9_areaTwice_16 : decode cX9_areaTwice 16 = .ok (.invokevirtual 316, 3) := by decide +kernel
theorem dX9_areaTwice_19 : decode cX9_areaTwice 19 = .ok (.isub, 1) := by decide +kernel
theorem dX9_areaTwice_20 : decode cX9_areaTwice 20 = .ok (.i2l, 1) := by decide +kernel
theorem dX9_areaTwice_21 : decode cX9_areaTwice 21 = .ok (.lstore 5, 2) := by decide +kernel
theorem dX9_areaTwice_23 : decode cX9_areaTwice 23 = .ok (.aload_n 2, 1) := by decide +kernel
theorem dX9_areaTwice_24 : decode cX9_areaTwice 24 = .ok (.invokevirtual 319, 3) := by decide +kernel
theorem dX9_areaTwice_27 : decode cX9_areaTwice 27 = .ok (.aload_n 0, 1) := by decide +kernel
theorem dX9_areaTwice_28 : decode cX9_areaTwice 28 = .ok (.invokevirtual 319, 3) := by decide +kernel
theorem dX9_areaTwice_31 : decode cX9_areaTwice 31 = .ok (.isub, 1) := by decide +kernel
theorem dX9_areaTwice_32 : decode cX9_areaTwice 32 = .ok (.i2l, 1) := by decide +kernel
theorem dX9_areaTwice_33 : decode cX9_areaTwice 33 = .ok (.lstore 7, 2) := by decide +kernel
theorem dX9_areaTwice_35 : decode cX9_areaTwice 35 = .ok (.aload_n 2, 1) := by decide +kernel
theorem dX9_areaTwice_36 : decode cX9_areaTwice 36 = .ok (.invokevirtual 316, 3) := by decide +kernel
theorem dX9_areaTwice_39 : decode cX9_areaTwice 39 = .ok (.aload_n 0, 1) := by decide +kernel
theorem dX9_areaTwice_40 : decode cX9_areaTwice 40 = .ok (.invokevirtual 316, 3) := by decide +kernel
theorem dX9_areaTwice_43 : decode cX9_areaTwice 43 = .ok (.isub, 1) := by decide +kernel
theorem dX9_areaTwice_44 : decode cX9_areaTwice 44 = .ok (.i2l, 1) := by decide +kernel
theorem dX9_areaTwice_45 : decode cX9_areaTwice 45 = .ok (.lstore 9, 2) := by decide +kernel
theorem dX9_areaTwice_47 : decode cX9_areaTwice 47 = .ok (.lload_n 3, 1) := by decide +kernel
theorem dX9_areaTwice_48 : decode cX9_areaTwice 48 = .ok (.lload 9, 2) := by decide +kernel
theorem dX9_areaTwice_50 : decode cX9_areaTwice 50 = .ok (.lmul, 1) := by decide +kernel
theorem dX9_areaTwice_51 : decode cX9_areaTwice 51 = .ok (.lload 7, 2) := by decide +kernel
theorem dX9_areaTwice_53 : decode cX9_areaTwice 53 = .ok (.lload 5, 2) := by decide +kernel
theorem dX9_areaTwice_55 : decode cX9_areaTwice 55 = .ok (.lmul, 1) := by decide +kernel
theorem dX9_areaTwice_56 : decode cX9_areaTwice 56 = .ok (.lsub, 1) := by decide +kernel
theorem dX9_areaTwice_57 : decode cX9_areaTwice 57 = .ok (.lreturn, 1) := by decide +kernel
set_option maxRecDepth 20000 in
theorem ggX9_strainAbove_X3_placeX : GoodIn wsX9_strainAbove wsX3_placeX := goodIn_r _ [6, 7, 32, 33, 34, 35, 36, 37, 38, 39, 40, 41, 42, 43, 44, 45, 46, 47, 48, 49, 50, 51, 52, 53, 54, 55, 56, 57, 58, 59, 60, 61, 62, 63, 64, 65, 66, 67, 68, 69, 70, 71, 72, 73, 74, 75, 76, 77, 78, 79] (by decide +kernel) (by decide +kernel)
set_option maxRecDepth 20000 in
theorem gX9_strainAbove_X3_placeX_u319X1 : GoodIn wsX9_strainAbove (va_wsU RX9 319 RX1 "CreepBoard$Mark" ⟨"CreepBoard$Mark", "placeX", "()I"⟩ yX3_placeX wsX3_placeX) := goodIn_app (goodIn_of _ (by decide +kernel)) ggX9_strainAbove_X3_placeX
set_option maxRecDepth 20000 in
theorem gX9_strainAbove_X3_placeX : GoodIn wsX9_strainAbove (wsV RX9 319 RX3 yX3_placeX wsX3_placeX) := goodIn_app (goodIn_of _ (by decide +kernel)) ggX9_strainAbove_X3_placeX
set_option maxRecDepth 20000 in
theorem gX9_strainAbove_X3_placeX_u319X4 : GoodIn wsX9_strainAbove (va_wsU RX9 319 RX4 "CreepBoard$Mark" ⟨"CreepBoard$Mark", "placeX", "()I"⟩ yX3_placeX wsX3_placeX) := goodIn_app (goodIn_of _ (by decide +kernel)) ggX9_strainAbove_X3_placeX
set_option maxRecDepth 20000 in
theorem gX9_strainAbove_X3_placeX_u319X8 : GoodIn wsX9_strainAbove (va_wsU RX9 319 RX8 "CreepBoard$Mark" ⟨"CreepBoard$Mark", "placeX", "()I"⟩ yX3_placeX wsX3_placeX) := goodIn_app (goodIn_of _ (by decide +kernel)) ggX9_strainAbove_X3_placeX
set_option maxRecDepth 20000 in
theorem ggX9_strainAbove_X3_placeY : GoodIn wsX9_strainAbove wsX3_placeY := goodIn_r _ [16, 17, 32, 33, 34, 35, 36, 37, 38, 39, 40, 41, 42, 43, 44, 45, 46, 47, 48, 49, 50, 51, 52, 53, 54, 55, 56, 57, 58, 59, 60, 61, 62, 63, 64, 65, 66, 67, 68, 69, 70, 71, 72, 73, 74, 75, 76, 77, 78, 79] (by decide +kernel) (by decide +kernel)
set_option maxRecDepth 20000 in
theorem gX9_strainAbove_X3_placeY_u316X1 : GoodIn wsX9_strainAbove (va_wsU RX9 316 RX1 "CreepBoard$Mark" ⟨"CreepBoard$Mark", "placeY", "()I"⟩ yX3_placeY wsX3_placeY) := goodIn_app (goodIn_of _ (by decide +kernel)) ggX9_strainAbove_X3_placeY
set_option maxRecDepth 20000 in
theorem gX9_strainAbove_X3_placeY : GoodIn wsX9_strainAbove (wsV RX9 316 RX3 yX3_placeY wsX3_placeY) := goodIn_app (goodIn_of _ (by decide +kernel)) ggX9_strainAbove_X3_placeY
set_option maxRecDepth 20000 in
theorem gX9_strainAbove_X3_placeY_u316X4 : GoodIn wsX9_strainAbove (va_wsU RX9 316 RX4 "CreepBoard$Mark" ⟨"CreepBoard$Mark", "placeY", "()I"⟩ yX3_placeY wsX3_placeY) := goodIn_app (goodIn_of _ (by decide +kernel)) ggX9_strainAbove_X3_placeY
set_option maxRecDepth 20000 in
theorem gX9_strainAbove_X3_placeY_u316X8 : GoodIn wsX9_strainAbove (va_wsU RX9 316 RX8 "CreepBoard$Mark" ⟨"CreepBoard$Mark", "placeY", "()I"⟩ yX3_placeY wsX3_placeY) := goodIn_app (goodIn_of _ (by decide +kernel)) ggX9_strainAbove_X3_placeY
set_option maxRecDepth 20000 in
theorem ggX9_strainAbove_X3_speed : GoodIn wsX9_strainAbove wsX3_speed := goodIn_r _ [26, 27, 32, 33, 34, 35, 36, 37, 38, 39, 40, 41, 42, 43, 44, 45, 46, 47, 48, 49, 50, 51, 52, 53, 54, 55, 56, 57, 58, 59, 60, 61, 62, 63, 64, 65, 66, 67, 68, 69, 70, 71, 72, 73, 74, 75, 76, 77, 78, 79] (by decide +kernel) (by decide +kernel)
set_option maxRecDepth 20000 in
theorem gX9_strainAbove_X3_speed_u149X1 : GoodIn wsX9_strainAbove (va_wsU RX9 149 RX1 "CreepBoard$Mark" ⟨"CreepBoard$Mark", "speed", "(I)I"⟩ yX3_speed wsX3_speed) := goodIn_app (goodIn_of _ (by decide +kernel)) ggX9_strainAbove_X3_speed
set_option maxRecDepth 20000 in
theorem gX9_strainAbove_X3_speed : GoodIn wsX9_strainAbove (wsV RX9 149 RX3 yX3_speed wsX3_speed) := goodIn_app (goodIn_of _ (by decide +kernel)) ggX9_strainAbove_X3_speed
set_option maxRecDepth 20000 in
theorem gX9_strainAbove_X3_speed_u149X4 : GoodIn wsX9_strainAbove (va_wsU RX9 149 RX4 "CreepBoard$Mark" ⟨"CreepBoard$Mark", "speed", "(I)I"⟩ yX3_speed wsX3_speed) := goodIn_app (goodIn_of _ (by decide +kernel)) ggX9_strainAbove_X3_speed
set_option maxRecDepth 20000 in
theorem gX9_strainAbove_X3_speed_u149X8 : GoodIn wsX9_strainAbove (va_wsU RX9 149 RX8 "CreepBoard$Mark" ⟨"CreepBoard$Mark", "speed", "(I)I"⟩ yX3_speed wsX3_speed) := goodIn_app (goodIn_of _ (by decide +kernel)) ggX9_strainAbove_X3_speed
theorem dX9_strainAbove_0 : decode cX9_strainAbove 0 = .ok (.aload_n 1, 1) := by decide +kernel
theorem dX9_strainAbove_1 : decode cX9_strainAbove 1 = .ok (.invokevirtual 319, 3) := by decide +kernel
theorem dX9_strainAbove_4 : decode cX9_strainAbove 4 = .ok (.aload_n 0, 1) := by decide +kernel
theorem dX9_strainAbove_5 : decode cX9_strainAbove 5 = .ok (.invokevirtual 319, 3) := by decide +kernel
theorem dX9_strainAbove_8 : decode cX9_strainAbove 8 = .ok (.isub, 1) := by decide +kernel
theorem dX9_strainAbove_9 : decode cX9_strainAbove 9 = .ok (.i2l, 1) := by decide +kernel
theorem dX9_strainAbove_10 : decode cX9_strainAbove 10 = .ok (.lstore 4, 2) := by decide +kernel
theorem dX9_strainAbove_12 : decode cX9_strainAbove 12 = .ok (.aload_n 1, 1) := by decide +kernel
theorem dX9_strainAbove_13 : decode cX9_strainAbove 13 = .ok (.invokevirtual 316, 3) := by decide +kernel
theorem dX9_strainAbove_16 : decode cX9_strainAbove 16 = .ok (.aload_n 0, 1) := by decide +kernel
theorem dX9_strainAbove_17 : decode cX9_strainAbove 17 = .ok (.invokevirtual 316, 3) := by decide +kernel
theorem dX9_strainAbove_20 : decode cX9_strainAbove 20 = .ok (.isub, 1) := by decide +kernel
theorem dX9_strainAbove_21 : decode cX9_strainAbove 21 = .ok (.i2l, 1) := by decide +kernel
theorem dX9_strainAbove_22 : decode cX9_strainAbove 22 = .ok (.lstore 6, 2) := by decide +kernel
theorem dX9_strainAbove_24 : decode cX9_strainAbove 24 = .ok (.aload_n 2, 1) := by decide +kernel
theorem dX9_strainAbove_25 : decode cX9_strainAbove 25 = .ok (.invokevirtual 319, 3) := by decide +kernel
theorem dX9_strainAbove_28 : decode cX9_strainAbove 28 = .ok (.aload_n 0, 1) := by decide +kernel
theorem dX9_strainAbove_29 : decode cX9_strainAbove 29 = .ok (.invokevirtual 319, 3) := by decide +kernel
theorem dX9_strainAbove_32 : decode cX9_strainAbove 32 = .ok (.isub, 1) := by decide +kernel
theorem dX9_strainAbove_33 : decode cX9_strainAbove 33 = .ok (.i2l, 1) := by decide +kernel
theorem dX9_strainAbove_34 : decode cX9_strainAbove 34 = .ok (.lstore 8, 2) := by decide +kernel
theorem dX9_strainAbove_36 : decode cX9_strainAbove 36 = .ok (.aload_n 2, 1) := by decide +kernel
theorem dX9_strainAbove_37 : decode cX9_strainAbove 37 = .ok (.invokevirtual 316, 3) := by decide +kernel
theorem dX9_strainAbove_40 : decode cX9_strainAbove 40 = .ok (.aload_n 0, 1) := by decide +kernel
theorem dX9_strainAbove_41 : decode cX9_strainAbove 41 = .ok (.invokevirtual 316, 3) := by decide +kernel
theorem dX9_strainAbove_44 : decode cX9_strainAbove 44 = .ok (.isub, 1) := by decide +kernel
theorem dX9_strainAbove_45 : decode cX9_strainAbove 45 = .ok (.i2l, 1) := by decide +kernel
theorem dX9_strainAbove_46 : decode cX9_strainAbove 46 = .ok (.lstore 10, 2) := by decide +kernel
theorem dX9_strainAbove_48 : decode cX9_strainAbove 48 = .ok (.aload_n 1, 1) := by decide +kernel
theorem dX9_strainAbove_49 : decode cX9_strainAbove 49 = .ok (.iconst 0, 1) := by decide +kernel
theorem dX9_strainAbove_50 : decode cX9_strainAbove 50 = .ok (.invokevirtual 149, 3) := by decide +kernel
theorem dX9_strainAbove_53 : decode cX9_strainAbove 53 = .ok (.aload_n 0, 1) := by decide +kernel
theorem dX9_strainAbove_54 : decode cX9_strainAbove 54 = .ok (.iconst 0, 1) := by decide +kernel
theorem dX9_strainAbove_55 : decode cX9_strainAbove 55 = .ok (.invokevirtual 149, 3) := by decide +kernel
theorem dX9_strainAbove_58 : decode cX9_strainAbove 58 = .ok (.isub, 1) := by decide +kernel
theorem dX9_strainAbove_59 : decode cX9_strainAbove 59 = .ok (.i2l, 1) := by decide +kernel
theorem dX9_strainAbove_60 : decode cX9_strainAbove 60 = .ok (.lstore 12, 2) := by decide +kernel
theorem dX9_strainAbove_62 : decode cX9_strainAbove 62 = .ok (.aload_n 1, 1) := by decide +kernel
theorem dX9_strainAbove_63 : decode cX9_strainAbove 63 = .ok (.iconst 1, 1) := by decide +kernel
theorem dX9_strainAbove_64 : decode cX9_strainAbove 64 = .ok (.invokevirtual 149, 3) := by decide +kernel
theorem dX9_strainAbove_67 : decode cX9_strainAbove 67 = .ok (.aload_n 0, 1) := by decide +kernel
theorem dX9_strainAbove_68 : decode cX9_strainAbove 68 = .ok (.iconst 1, 1) := by decide +kernel
theorem dX9_strainAbove_69 : decode cX9_strainAbove 69 = .ok (.invokevirtual 149, 3) := by decide +kernel
theorem dX9_strainAbove_72 : decode cX9_strainAbove 72 = .ok (.isub, 1) := by decide +kernel
theorem dX9_strainAbove_73 : decode cX9_strainAbove 73 = .ok (.i2l, 1) := by decide +kernel
theorem dX9_strainAbove_74 : decode cX9_strainAbove 74 = .ok (.lstore 14, 2) := by decide +kernel
theorem dX9_strainAbove_76 : decode cX9_strainAbove 76 = .ok (.aload_n 2, 1) := by decide +kernel
theorem dX9_strainAbove_77 : decode cX9_strainAbove 77 = .ok (.iconst 0, 1) := by decide +kernel
theorem dX9_strainAbove_78 : decode cX9_strainAbove 78 = .ok (.invokevirtual 149, 3) := by decide +kernel
theorem dX9_strainAbove_81 : decode cX9_strainAbove 81 = .ok (.aload_n 0, 1) := by decide +kernel
theorem dX9_strainAbove_82 : decode cX9_strainAbove 82 = .ok (.iconst 0, 1) := by decide +kernel
theorem dX9_strainAbove_83 : decode cX9_strainAbove 83 = .ok (.invokevirtual 149, 3) := by decide +kernel
theorem dX9_strainAbove_86 : decode cX9_strainAbove 86 = .ok (.isub, 1) := by decide +kernel
theorem dX9_strainAbove_87 : decode cX9_strainAbove 87 = .ok (.i2l, 1) := by decide +kernel
theorem dX9_strainAbove_88 : decode cX9_strainAbove 88 = .ok (.lstore 16, 2) := by decide +kernel
theorem dX9_strainAbove_90 : decode cX9_strainAbove 90 = .ok (.aload_n 2, 1) := by decide +kernel
theorem dX9_strainAbove_91 : decode cX9_strainAbove 91 = .ok (.iconst 1, 1) := by decide +kernel
theorem dX9_strainAbove_92 : decode cX9_strainAbove 92 = .ok (.invokevirtual 149, 3) := by decide +kernel
theorem dX9_strainAbove_95 : decode cX9_strainAbove 95 = .ok (.aload_n 0, 1) := by decide +kernel
theorem dX9_strainAbove_96 : decode cX9_strainAbove 96 = .ok (.iconst 1, 1) := by decide +kernel
theorem dX9_strainAbove_97 : decode cX9_strainAbove 97 = .ok (.invokevirtual 149, 3) := by decide +kernel
theorem dX9_strainAbove_100 : decode cX9_strainAbove 100 = .ok (.isub, 1) := by decide +kernel
theorem dX9_strainAbove_101 : decode cX9_strainAbove 101 = .ok (.i2l, 1) := by decide +kernel
theorem dX9_strainAbove_102 : decode cX9_strainAbove 102 = .ok (.lstore 18, 2) := by decide +kernel
theorem dX9_strainAbove_104 : decode cX9_strainAbove 104 = .ok (.iload_n 3, 1) := by decide +kernel
theorem dX9_strainAbove_105 : decode cX9_strainAbove 105 = .ok (.tableswitch 75 0 2 #[27, 39, 51], 27) := by decide +kernel
theorem dX9_strainAbove_132 : decode cX9_strainAbove 132 = .ok (.lload 12, 2) := by decide +kernel
theorem dX9_strainAbove_134 : decode cX9_strainAbove 134 = .ok (.lload 10, 2) := by decide +kernel
theorem dX9_strainAbove_136 : decode cX9_strainAbove 136 = .ok (.lmul, 1) := by decide +kernel
theorem dX9_strainAbove_137 : decode cX9_strainAbove 137 = .ok (.lload 16, 2) := by decide +kernel
theorem dX9_strainAbove_139 : decode cX9_strainAbove 139 = .ok (.lload 6, 2) := by decide +kernel
theorem dX9_strainAbove_141 : decode cX9_strainAbove 141 = .ok (.lmul, 1) := by decide +kernel
theorem dX9_strainAbove_142 : decode cX9_strainAbove 142 = .ok (.lsub, 1) := by decide +kernel
theorem dX9_strainAbove_143 : decode cX9_strainAbove 143 = .ok (.lreturn, 1) := by decide +kernel
theorem dX9_strainAbove_144 : decode cX9_strainAbove 144 = .ok (.lload 4, 2) := by decide +kernel
theorem dX9_strainAbove_146 : decode cX9_strainAbove 146 = .ok (.lload 18, 2) := by decide +kernel
theorem dX9_strainAbove_148 : decode cX9_strainAbove 148 = .ok (.lmul, 1) := by decide +kernel
theorem dX9_strainAbove_149 : decode cX9_strainAbove 149 = .ok (.lload 8, 2) := by decide +kernel
theorem dX9_strainAbove_151 : decode cX9_strainAbove 151 = .ok (.lload 14, 2) := by decide +kernel
theorem dX9_strainAbove_153 : decode cX9_strainAbove 153 = .ok (.lmul, 1) := by decide +kernel
theorem dX9_strainAbove_154 : decode cX9_strainAbove 154 = .ok (.lsub, 1) := by decide +kernel
theorem dX9_strainAbove_155 : decode cX9_strainAbove 155 = .ok (.lreturn, 1) := by decide +kernel
theorem dX9_strainAbove_156 : decode cX9_strainAbove 156 = .ok (.lload 4, 2) := by decide +kernel
theorem dX9_strainAbove_158 : decode cX9_strainAbove 158 = .ok (.lload 16, 2) := by decide +kernel
theorem dX9_strainAbove_160 : decode cX9_strainAbove 160 = .ok (.lmul, 1) := by decide +kernel
theorem dX9_strainAbove_161 : decode cX9_strainAbove 161 = .ok (.lload 8, 2) := by decide +kernel
theorem dX9_strainAbove_163 : decode cX9_strainAbove 163 = .ok (.lload 12, 2) := by decide +kernel
theorem dX9_strainAbove_165 : decode cX9_strainAbove 165 = .ok (.lmul, 1) := by decide +kernel
theorem dX9_strainAbove_166 : decode cX9_strainAbove 166 = .ok (.lsub, 1) := by decide +kernel
theorem dX9_strainAbove_167 : decode cX9_strainAbove 167 = .ok (.lload 14, 2) := by decide +kernel
theorem dX9_strainAbove_169 : decode cX9_strainAbove 169 = .ok (.lload 10, 2) := by decide +kernel
theorem dX9_strainAbove_171 : decode cX9_strainAbove 171 = .ok (.lmul, 1) := by decide +kernel
theorem dX9_strainAbove_172 : decode cX9_strainAbove 172 = .ok (.lload 18, 2) := by decide +kernel
theorem dX9_strainAbove_174 : decode cX9_strainAbove 174 = .ok (.lload 6, 2) := by decide +kernel
theorem dX9_strainAbove_176 : decode cX9_strainAbove 176 = .ok (.lmul, 1) := by decide +kernel
theorem dX9_strainAbove_177 : decode cX9_strainAbove 177 = .ok (.lsub, 1) := by decide +kernel
theorem dX9_strainAbove_178 : decode cX9_strainAbove 178 = .ok (.ladd, 1) := by decide +kernel
theorem dX9_strainAbove_179 : decode cX9_strainAbove 179 = .ok (.lreturn, 1) := by decide +kernel
theorem dX9_strainAbove_180 : decode cX9_strainAbove 180 = .ok (.lload 14, 2) := by decide +kernel
theorem dX9_strainAbove_182 : decode cX9_strainAbove 182 = .ok (.lload 10, 2) := by decide +kernel
theorem dX9_strainAbove_184 : decode cX9_strainAbove 184 = .ok (.lmul, 1) := by decide +kernel
theorem dX9_strainAbove_185 : decode cX9_strainAbove 185 = .ok (.lload 18, 2) := by decide +kernel
theorem dX9_strainAbove_187 : decode cX9_strainAbove 187 = .ok (.lload 6, 2) := by decide +kernel
theorem dX9_strainAbove_189 : decode cX9_strainAbove 189 = .ok (.lmul, 1) := by decide +kernel
theorem dX9_strainAbove_190 : decode cX9_strainAbove 190 = .ok (.lsub, 1) := by decide +kernel
theorem dX9_strainAbove_191 : decode cX9_strainAbove 191 = .ok (.lload 4, 2) := by decide +kernel
theorem dX9_strainAbove_193 : decode cX9_strainAbove 193 = .ok (.lload 16, 2) := by decide +kernel
theorem dX9_strainAbove_195 : decode cX9_strainAbove 195 = .ok (.lmul, 1) := by decide +kernel
theorem dX9_strainAbove_196 : decode cX9_strainAbove 196 = .ok (.lload 8, 2) := by decide +kernel
theorem dX9_strainAbove_198 : decode cX9_strainAbove 198 = .ok (.lload 12, 2) := by decide +kernel
theorem dX9_strainAbove_200 : decode cX9_strainAbove 200 = .ok (.lmul, 1) := by decide +kernel
theorem dX9_strainAbove_201 : decode cX9_strainAbove 201 = .ok (.lsub, 1) := by decide +kernel
theorem dX9_strainAbove_202 : decode cX9_strainAbove 202 = .ok (.lsub, 1) := by decide +kernel
theorem dX9_strainAbove_203 : decode cX9_strainAbove 203 = .ok (.lreturn, 1) := by decide +kernel
set_option maxRecDepth 20000 in
theorem ggX9_lowestTerms_X9_greatestDivisor : GoodIn wsX9_lowestTerms wsX9_greatestDivisor := goodIn_r _ [8] (by decide +kernel) (by decide +kernel)
set_option maxRecDepth 20000 in
theorem gX9_lowestTerms_X9_greatestDivisor : GoodIn wsX9_lowestTerms (va_wsS RX9 328 yX9_greatestDivisor wsX9_greatestDivisor) := goodIn_app (goodIn_of _ (by decide +kernel)) ggX9_lowestTerms_X9_greatestDivisor
theorem dX9_lowestTerms_0 : decode cX9_lowestTerms 0 = .ok (.lload_n 0, 1) := by decide +kernel
theorem dX9_lowestTerms_1 : decode cX9_lowestTerms 1 = .ok (.invokestatic 322, 3) := by decide +kernel
theorem dX9_lowestTerms_4 : decode cX9_lowestTerms 4 = .ok (.lload_n 2, 1) := by decide +kernel
theorem dX9_lowestTerms_5 : decode cX9_lowestTerms 5 = .ok (.invokestatic 322, 3) := by decide +kernel
theorem dX9_lowestTerms_8 : decode cX9_lowestTerms 8 = .ok (.invokestatic 328, 3) := by decide +kernel
theorem dX9_lowestTerms_11 : decode cX9_lowestTerms 11 = .ok (.lstore 5, 2) := by decide +kernel
theorem dX9_lowestTerms_13 : decode cX9_lowestTerms 13 = .ok (.lload 5, 2) := by decide +kernel
theorem dX9_lowestTerms_15 : decode cX9_lowestTerms 15 = .ok (.lconst 0, 1) := by decide +kernel
theorem dX9_lowestTerms_16 : decode cX9_lowestTerms 16 = .ok (.lcmp, 1) := by decide +kernel
theorem dX9_lowestTerms_17 : decode cX9_lowestTerms 17 = .ok (.ifCond .ne 5, 3) := by decide +kernel
theorem dX9_lowestTerms_20 : decode cX9_lowestTerms 20 = .ok (.lconst 0, 1) := by decide +kernel
theorem dX9_lowestTerms_21 : decode cX9_lowestTerms 21 = .ok (.lreturn, 1) := by decide +kernel
theorem dX9_lowestTerms_22 : decode cX9_lowestTerms 22 = .ok (.lload_n 2, 1) := by decide +kernel
theorem dX9_lowestTerms_23 : decode cX9_lowestTerms 23 = .ok (.lconst 0, 1) := by decide +kernel
theorem dX9_lowestTerms_24 : decode cX9_lowestTerms 24 = .ok (.lcmp, 1) := by decide +kernel
theorem dX9_lowestTerms_25 : decode cX9_lowestTerms 25 = .ok (.ifCond .ge 8, 3) := by decide +kernel
theorem dX9_lowestTerms_28 : decode cX9_lowestTerms 28 = .ok (.lload 5, 2) := by decide +kernel
theorem dX9_lowestTerms_30 : decode cX9_lowestTerms 30 = .ok (.lneg, 1) := by decide +kernel
theorem dX9_lowestTerms_31 : decode cX9_lowestTerms 31 = .ok (.lstore 5, 2) := by decide +kernel
theorem dX9_lowestTerms_33 : decode cX9_lowestTerms 33 = .ok (.iload 4, 2) := by decide +kernel
theorem dX9_lowestTerms_35 : decode cX9_lowestTerms 35 = .ok (.ifCond .eq 10, 3) := by decide +kernel
theorem dX9_lowestTerms_38 : decode cX9_lowestTerms 38 = .ok (.lload_n 2, 1) := by decide +kernel
theorem dX9_lowestTerms_39 : decode cX9_lowestTerms 39 = .ok (.lload 5, 2) := by decide +kernel
theorem dX9_lowestTerms_41 : decode cX9_lowestTerms 41 = .ok (.ldiv, 1) := by decide +kernel
theorem dX9_lowestTerms_42 : decode cX9_lowestTerms 42 = .ok (.goto 7, 3) := by decide +kernel
theorem dX9_lowestTerms_45 : decode cX9_lowestTerms 45 = .ok (.lload_n 0, 1) := by decide +kernel
theorem dX9_lowestTerms_46 : decode cX9_lowestTerms 46 = .ok (.lload 5, 2) := by decide +kernel
theorem dX9_lowestTerms_48 : decode cX9_lowestTerms 48 = .ok (.ldiv, 1) := by decide +kernel
theorem dX9_lowestTerms_49 : decode cX9_lowestTerms 49 = .ok (.lreturn, 1) := by decide +kernel
theorem dX9_greatestDivisor_0 : decode cX9_greatestDivisor 0 = .ok (.lload_n 0, 1) := by decide +kernel
theorem dX9_greatestDivisor_1 : decode cX9_greatestDivisor 1 = .ok (.lstore 4, 2) := by decide +kernel
theorem dX9_greatestDivisor_3 : decode cX9_greatestDivisor 3 = .ok (.lload_n 2, 1) := by decide +kernel
theorem dX9_greatestDivisor_4 : decode cX9_greatestDivisor 4 = .ok (.lstore 6, 2) := by decide +kernel
theorem dX9_greatestDivisor_6 : decode cX9_greatestDivisor 6 = .ok (.iconst 0, 1) := by decide +kernel
theorem dX9_greatestDivisor_7 : decode cX9_greatestDivisor 7 = .ok (.istore 8, 2) := by decide +kernel
theorem dX9_greatestDivisor_9 : decode cX9_greatestDivisor 9 = .ok (.iload 8, 2) := by decide +kernel
theorem dX9_greatestDivisor_11 : decode cX9_greatestDivisor 11 = .ok (.sipush 1000, 3) := by decide +kernel
theorem dX9_greatestDivisor_14 : decode cX9_greatestDivisor 14 = .ok (.if_icmp .ge 31, 3) := by decide +kernel
theorem dX9_greatestDivisor_17 : decode cX9_greatestDivisor 17 = .ok (.lload 6, 2) := by decide +kernel
theorem dX9_greatestDivisor_19 : decode cX9_greatestDivisor 19 = .ok (.lconst 0, 1) := by decide +kernel
theorem dX9_greatestDivisor_20 : decode cX9_greatestDivisor 20 = .ok (.lcmp, 1) := by decide +kernel
theorem dX9_greatestDivisor_21 : decode cX9_greatestDivisor 21 = .ok (.ifCond .eq 24, 3) := by decide +kernel
theorem dX9_greatestDivisor_24 : decode cX9_greatestDivisor 24 = .ok (.lload 4, 2) := by decide +kernel
theorem dX9_greatestDivisor_26 : decode cX9_greatestDivisor 26 = .ok (.lload 6, 2) := by decide +kernel
theorem dX9_greatestDivisor_28 : decode cX9_greatestDivisor 28 = .ok (.lrem, 1) := by decide +kernel
theorem dX9_greatestDivisor_29 : decode cX9_greatestDivisor 29 = .ok (.lstore 9, 2) := by decide +kernel
theorem dX9_greatestDivisor_31 : decode cX9_greatestDivisor 31 = .ok (.lload 6, 2) := by decide +kernel
theorem dX9_greatestDivisor_33 : decode cX9_greatestDivisor 33 = .ok (.lstore 4, 2) := by decide +kernel
theorem dX9_greatestDivisor_35 : decode cX9_greatestDivisor 35 = .ok (.lload 9, 2) := by decide +kernel
theorem dX9_greatestDivisor_37 : decode cX9_greatestDivisor 37 = .ok (.lstore 6, 2) := by decide +kernel
theorem dX9_greatestDivisor_39 : decode cX9_greatestDivisor 39 = .ok (.iinc 8 1, 3) := by decide +kernel
theorem dX9_greatestDivisor_42 : decode cX9_greatestDivisor 42 = .ok (.goto (-33), 3) := by decide +kernel
theorem dX9_greatestDivisor_45 : decode cX9_greatestDivisor 45 = .ok (.lload 4, 2) := by decide +kernel
theorem dX9_greatestDivisor_47 : decode cX9_greatestDivisor 47 = .ok (.lreturn, 1) := by decide +kernel
set_option maxRecDepth 20000 in
theorem ggX9_allReadings_X9_markAt : GoodIn wsX9_allReadings wsX9_markAt := goodIn_r _ [6, 1, 7, 19, 20, 21, 22, 23, 24, 25, 26] (by decide +kernel) (by decide +kernel)
set_option maxRecDepth 20000 in
theorem gX9_allReadings_X9_markAt : GoodIn wsX9_allReadings (wsV RX9 65 RX9 yX9_markAt wsX9_markAt) := goodIn_app (goodIn_of _ (by decide +kernel)) ggX9_allReadings_X9_markAt
set_option maxRecDepth 20000 in
theorem ggX9_allReadings_X3_readingCount : GoodIn wsX9_allReadings wsX3_readingCount := goodIn_r _ [13, 14, 27, 28, 29, 30, 31, 32, 33, 34, 35, 36, 37, 38, 39, 40, 41, 42, 43, 44, 45, 46, 47, 48, 49, 50, 51, 52, 53, 54, 55, 56, 57, 58, 59, 60, 61, 62, 63, 64, 65, 66, 67, 68, 69, 70, 71, 72, 73, 74] (by decide +kernel) (by decide +kernel)
set_option maxRecDepth 20000 in
theorem gX9_allReadings_X3_readingCount_u332X1 : GoodIn wsX9_allReadings (va_wsU RX9 332 RX1 "CreepBoard$Mark" ⟨"CreepBoard$Mark", "readingCount", "()I"⟩ yX3_readingCount wsX3_readingCount) := goodIn_app (goodIn_of _ (by decide +kernel)) ggX9_allReadings_X3_readingCount
set_option maxRecDepth 20000 in
theorem gX9_allReadings_X3_readingCount : GoodIn wsX9_allReadings (wsV RX9 332 RX3 yX3_readingCount wsX3_readingCount) := goodIn_app (goodIn_of _ (by decide +kernel)) ggX9_allReadings_X3_readingCount
set_option maxRecDepth 20000 in
theorem gX9_allReadings_X3_readingCount_u332X4 : GoodIn wsX9_allReadings (va_wsU RX9 332 RX4 "CreepBoard$Mark" ⟨"CreepBoard$Mark", "readingCount", "()I"⟩ yX3_readingCount wsX3_readingCount) := goodIn_app (goodIn_of _ (by decide +kernel)) ggX9_allReadings_X3_readingCount
set_option maxRecDepth 20000 in
theorem gX9_allReadings_X3_readingCount_u332X8 : GoodIn wsX9_allReadings (va_wsU RX9 332 RX8 "CreepBoard$Mark" ⟨"CreepBoard$Mark", "readingCount", "()I"⟩ yX3_readingCount wsX3_readingCount) := goodIn_app (goodIn_of _ (by decide +kernel)) ggX9_allReadings_X3_readingCount
theorem dX9_allReadings_0 : decode cX9_allReadings 0 = .ok (.iconst 0, 1) := by decide +kernel
theorem dX9_allReadings_1 : decode cX9_allReadings 1 = .ok (.istore_n 1, 1) := by decide +kernel
theorem dX9_allReadings_2 : decode cX9_allReadings 2 = .ok (.iconst 0, 1) := by decide +kernel
theorem dX9_allReadings_3 : decode cX9_allReadings 3 = .ok (.istore_n 2, 1) := by decide +kernel
theorem dX9_allReadings_4 : decode cX9_allReadings 4 = .ok (.iload_n 2, 1) := by decide +kernel
theorem dX9_allReadings_5 : decode cX9_allReadings 5 = .ok (.aload_n 0, 1) := by decide +kernel
theorem dX9_allReadings_6 : decode cX9_allReadings 6 = .ok (.getfield 54, 3) := by decide +kernel
theorem dX9_allReadings_9 : decode cX9_allReadings 9 = .ok (.if_icmp .ge 26, 3) := by decide +kernel
theorem dX9_allReadings_12 : decode cX9_allReadings 12 = .ok (.aload_n 0, 1) := by decide +kernel
theorem dX9_allReadings_13 : decode cX9_allReadings 13 = .ok (.iload_n 2, 1) := by decide +kernel
theorem dX9_allReadings_14 : decode cX9_allReadings 14 = .ok (.invokevirtual 65, 3) := by decide +kernel
theorem dX9_allReadings_17 : decode cX9_allReadings 17 = .ok (.astore_n 3, 1) := by decide +kernel
theorem dX9_allReadings_18 : decode cX9_allReadings 18 = .ok (.aload_n 3, 1) := by decide +kernel
theorem dX9_allReadings_19 : decode cX9_allReadings 19 = .ok (.ifnull 10, 3) := by decide +kernel
theorem dX9_allReadings_22 : decode cX9_allReadings 22 = .ok (.iload_n 1, 1) := by decide +kernel
theorem dX9_allReadings_23 : decode cX9_allReadings 23 = .ok (.aload_n 3, 1) := by decide +kernel
theorem dX9_allReadings_24 : decode cX9_allReadings 24 = .ok (.invokevirtual 332, 3) := by decide +kernel
theorem dX9_allReadings_27 : decode cX9_allReadings 27 = .ok (.iadd, 1) := by decide +kernel
theorem dX9_allReadings_28 : decode cX9_allReadings 28 = .ok (.istore_n 1, 1) := by decide +kernel
theorem dX9_allReadings_29 : decode cX9_allReadings 29 = .ok (.iinc 2 1, 3) := by decide +kernel
theorem dX9_allReadings_32 : decode cX9_allReadings 32 = .ok (.goto (-28), 3) := by decide +kernel
theorem dX9_allReadings_35 : decode cX9_allReadings 35 = .ok (.iload_n 1, 1) := by decide +kernel
theorem dX9_allReadings_36 : decode cX9_allReadings 36 = .ok (.ireturn, 1) := by decide +kernel
set_option maxRecDepth 20000 in
theorem ggX9_allSteps_X9_markAt : GoodIn wsX9_allSteps wsX9_markAt := goodIn_r _ [6, 1, 7, 19, 20, 21, 22, 23, 24, 25, 26] (by decide +kernel) (by decide +kernel)
set_option maxRecDepth 20000 in
theorem gX9_allSteps_X9_markAt : GoodIn wsX9_allSteps (wsV RX9 65 RX9 yX9_markAt wsX9_markAt) := goodIn_app (goodIn_of _ (by decide +kernel)) ggX9_allSteps_X9_markAt
set_option maxRecDepth 20000 in
theorem ggX9_allSteps_X3_stepCount : GoodIn wsX9_allSteps wsX3_stepCount := goodIn_r _ [13, 14, 27, 28, 29, 30, 31, 32, 33, 34, 35, 36, 37, 38, 39, 40, 41, 42, 43, 44, 45, 46, 47, 48, 49, 50, 51, 52, 53, 54, 55, 56, 57, 58, 59, 60, 61, 62, 63, 64, 65, 66, 67, 68, 69, 70, 71, 72, 73, 74] (by decide +kernel) (by decide +kernel)
set_option maxRecDepth 20000 in
theorem gX9_allSteps_X3_stepCount_u90X1 : GoodIn wsX9_allSteps (va_wsU RX9 90 RX1 "CreepBoard$Mark" ⟨"CreepBoard$Mark", "stepCount", "()I"⟩ yX3_stepCount wsX3_stepCount) := goodIn_app (goodIn_of _ (by decide +kernel)) ggX9_allSteps_X3_stepCount
set_option maxRecDepth 20000 in
theorem gX9_allSteps_X3_stepCount : GoodIn wsX9_allSteps (wsV RX9 90 RX3 yX3_stepCount wsX3_stepCount) := goodIn_app (goodIn_of _ (by decide +kernel)) ggX9_allSteps_X3_stepCount
set_option maxRecDepth 20000 in
theorem gX9_allSteps_X3_stepCount_u90X4 : GoodIn wsX9_allSteps (va_wsU RX9 90 RX4 "CreepBoard$Mark" ⟨"CreepBoard$Mark", "stepCount", "()I"⟩ yX3_stepCount wsX3_stepCount) := goodIn_app (goodIn_of _ (by decide +kernel)) ggX9_allSteps_X3_stepCount
set_option maxRecDepth 20000 in
theorem gX9_allSteps_X3_stepCount_u90X8 : GoodIn wsX9_allSteps (va_wsU RX9 90 RX8 "CreepBoard$Mark" ⟨"CreepBoard$Mark", "stepCount", "()I"⟩ yX3_stepCount wsX3_stepCount) := goodIn_app (goodIn_of _ (by decide +kernel)) ggX9_allSteps_X3_stepCount
theorem dX9_allSteps_0 : decode cX9_allSteps 0 = .ok (.iconst 0, 1) := by decide +kernel
theorem dX9_allSteps_1 : decode cX9_allSteps 1 = .ok (.istore_n 1, 1) := by decide +kernel
theorem dX9_allSteps_2 : decode cX9_allSteps 2 = .ok (.iconst 0, 1) := by decide +kernel
theorem dX9_allSteps_3 : decode cX9_allSteps 3 = .ok (.istore_n 2, 1) := by decide +kernel
theorem dX9_allSteps_4 : decode cX9_allSteps 4 = .ok (.iload_n 2, 1) := by decide +kernel
theorem dX9_allSteps_5 : decode cX9_allSteps 5 = .ok (.aload_n 0, 1) := by decide +kernel
theorem dX9_allSteps_6 : decode cX9_allSteps 6 = .ok (.getfield 54, 3) := by decide +kernel
theorem dX9_allSteps_9 : decode cX9_allSteps 9 = .ok (.if_icmp .ge 26, 3) := by decide +kernel
theorem dX9_allSteps_12 : decode cX9_allSteps 12 = .ok (.aload_n 0, 1) := by decide +kernel
theorem dX9_allSteps_13 : decode cX9_allSteps 13 = .ok (.iload_n 2, 1) := by decide +kernel
theorem dX9_allSteps_14 : decode cX9_allSteps 14 = .ok (.invokevirtual 65, 3) := by decide +kernel
theorem dX9_allSteps_17 : decode cX9_allSteps 17 = .ok (.astore_n 3, 1) := by decide +kernel
theorem dX9_allSteps_18 : decode cX9_allSteps 18 = .ok (.aload_n 3, 1) := by decide +kernel
theorem dX9_allSteps_19 : decode cX9_allSteps 19 = .ok (.ifnull 10, 3) := by decide +kernel
theorem dX9_allSteps_22 : decode cX9_allSteps 22 = .ok (.iload_n 1, 1) := by decide +kernel
theorem dX9_allSteps_23 : decode cX9_allSteps 23 = .ok (.aload_n 3, 1) := by decide +kernel
theorem dX9_allSteps_24 : decode cX9_allSteps 24 = .ok (.invokevirtual 90, 3) := by decide +kernel
theorem dX9_allSteps_27 : decode cX9_allSteps 27 = .ok (.iadd, 1) := by decide +kernel
theorem dX9_allSteps_28 : decode cX9_allSteps 28 = .ok (.istore_n 1, 1) := by decide +kernel
theorem dX9_allSteps_29 : decode cX9_allSteps 29 = .ok (.iinc 2 1, 3) := by decide +kernel
theorem dX9_allSteps_32 : decode cX9_allSteps 32 = .ok (.goto (-28), 3) := by decide +kernel
theorem dX9_allSteps_35 : decode cX9_allSteps 35 = .ok (.iload_n 1, 1) := by decide +kernel
theorem dX9_allSteps_36 : decode cX9_allSteps 36 = .ok (.ireturn, 1) := by decide +kernel
set_option maxRecDepth 20000 in
theorem ggX9_markOn_X9_shelfAt : GoodIn wsX9_markOn wsX9_shelfAt := goodIn_r _ [5, 6, 13, 14, 15, 16, 17, 18, 19, 20] (by decide +kernel) (by decide +kernel)
set_option maxRecDepth 20000 in
theorem gX9_markOn_X9_shelfAt : GoodIn wsX9_markOn (wsV RX9 251 RX9 yX9_shelfAt wsX9_shelfAt) := goodIn_app (goodIn_of _ (by decide +kernel)) ggX9_markOn_X9_shelfAt
set_option maxRecDepth 20000 in
theorem ggX9_markOn_X6_heldMark : GoodIn wsX9_markOn wsX6_heldMark := goodIn_r _ [11, 12, 21, 22, 23, 24] (by decide +kernel) (by decide +kernel)
set_option maxRecDepth 20000 in
theorem gX9_markOn_X6_heldMark : GoodIn wsX9_markOn (wsV RX9 335 RX6 yX6_heldMark wsX6_heldMark) := goodIn_app (goodIn_of _ (by decide +kernel)) ggX9_markOn_X6_heldMark
theorem dX9_markOn_0 : decode cX9_markOn 0 = .ok (.aload_n 0, 1) := by decide +kernel
theorem dX9_markOn_1 : decode cX9_markOn 1 = .ok (.iload_n 1, 1) := by decide +kernel
theorem dX9_markOn_2 : decode cX9_markOn 2 = .ok (.invokevirtual 251, 3) := by decide +kernel
theorem dX9_markOn_5 : decode cX9_markOn 5 = .ok (.astore_n 2, 1) := by decide +kernel
theorem dX9_markOn_6 : decode cX9_markOn 6 = .ok (.aload_n 2, 1) := by decide +kernel
theorem dX9_markOn_7 : decode cX9_markOn 7 = .ok (.ifnonnull 7, 3) := by decide +kernel
theorem dX9_markOn_10 : decode cX9_markOn 10 = .ok (.aconst_null, 1) := by decide +kernel
theorem dX9_markOn_11 : decode cX9_markOn 11 = .ok (.goto 7, 3) := by decide +kernel
theorem dX9_markOn_14 : decode cX9_markOn 14 = .ok (.aload_n 2, 1) := by decide +kernel
theorem dX9_markOn_15 : decode cX9_markOn 15 = .ok (.invokevirtual 335, 3) := by decide +kernel
theorem dX9_markOn_18 : decode cX9_markOn 18 = .ok (.areturn, 1) := by decide +kernel
set_option maxRecDepth 20000 in
theorem ggX9_refusalOfMarkOn_X9_shelfAt : GoodIn wsX9_refusalOfMarkOn wsX9_shelfAt := goodIn_r _ [5, 6, 13, 14, 15, 16, 17, 18, 19, 20] (by decide +kernel) (by decide +kernel)
set_option maxRecDepth 20000 in
theorem gX9_refusalOfMarkOn_X9_shelfAt : GoodIn wsX9_refusalOfMarkOn (wsV RX9 251 RX9 yX9_shelfAt wsX9_shelfAt) := goodIn_app (goodIn_of _ (by decide +kernel)) ggX9_refusalOfMarkOn_X9_shelfAt
set_option maxRecDepth 20000 in
theorem ggX9_refusalOfMarkOn_X6_holds : GoodIn wsX9_refusalOfMarkOn wsX6_holds := goodIn_r _ [11, 12, 21, 22, 23, 24] (by decide +kernel) (by decide +kernel)
set_option maxRecDepth 20000 in
theorem gX9_refusalOfMarkOn_X6_holds : GoodIn wsX9_refusalOfMarkOn (wsV RX9 280 RX6 yX6_holds wsX6_holds) := goodIn_app (goodIn_of _ (by decide +kernel)) ggX9_refusalOfMarkOn_X6_holds
theorem dX9_refusalOfMarkOn_0 : decode cX9_refusalOfMarkOn 0 = .ok (.aload_n 0, 1) := by decide +kernel
theorem dX9_refusalOfMarkOn_1 : decode cX9_refusalOfMarkOn 1 = .ok (.iload_n 1, 1) := by decide +kernel
theorem dX9_refusalOfMarkOn_2 : decode cX9_refusalOfMarkOn 2 = .ok (.invokevirtual 251, 3) := by decide +kernel
theorem dX9_refusalOfMarkOn_5 : decode cX9_refusalOfMarkOn 5 = .ok (.astore_n 2, 1) := by decide +kernel
theorem dX9_refusalOfMarkOn_6 : decode cX9_refusalOfMarkOn 6 = .ok (.aload_n 2, 1) := by decide +kernel
theorem dX9_refusalOfMarkOn_7 : decode cX9_refusalOfMarkOn 7 = .ok (.ifnonnull 5, 3) := by decide +kernel
theorem dX9_refusalOfMarkOn_10 : decode cX9_refusalOfMarkOn 10 = .ok (.iconst (-1), 1) := by decide +kernel
theorem dX9_refusalOfMarkOn_11 : decode cX9_refusalOfMarkOn 11 = .ok (.ireturn, 1) := by decide +kernel
theorem dX9_refusalOfMarkOn_12 : decode cX9_refusalOfMarkOn 12 = .ok (.aload_n 2, 1) := by decide +kernel
theorem dX9_refusalOfMarkOn_13 : decode cX9_refusalOfMarkOn 13 = .ok (.invokevirtual 280, 3) := by decide +kernel
theorem dX9_refusalOfMarkOn_16 : decode cX9_refusalOfMarkOn 16 = .ok (.ifCond .ne 6, 3) := by decide +kernel
theorem dX9_refusalOfMarkOn_19 : decode cX9_refusalOfMarkOn 19 = .ok (.bipush (-11), 2) := by decide +kernel
theorem dX9_refusalOfMarkOn_21 : decode cX9_refusalOfMarkOn 21 = .ok (.ireturn, 1) := by decide +kernel
theorem dX9_refusalOfMarkOn_22 : decode cX9_refusalOfMarkOn 22 = .ok (.aload_n 2, 1) := by decide +kernel
theorem dX9_refusalOfMarkOn_23 : decode cX9_refusalOfMarkOn 23 = .ok (.invokevirtual 280, 3) := by decide +kernel
theorem dX9_refusalOfMarkOn_26 : decode cX9_refusalOfMarkOn 26 = .ok (.iconst 1, 1) := by decide +kernel
theorem dX9_refusalOfMarkOn_27 : decode cX9_refusalOfMarkOn 27 = .ok (.if_icmp .ne 7, 3) := by decide +kernel
theorem dX9_refusalOfMarkOn_30 : decode cX9_refusalOfMarkOn 30 = .ok (.iconst 0, 1) := by decide +kernel
theorem dX9_refusalOfMarkOn_31 : decode cX9_refusalOfMarkOn 31 = .ok (.goto 5, 3) := by decide +kernel
theorem dX9_refusalOfMarkOn_34 : decode cX9_refusalOfMarkOn 34 = .ok (.bipush (-12), 2) := by decide +kernel
theorem dX9_refusalOfMarkOn_36 : decode cX9_refusalOfMarkOn 36 = .ok (.ireturn, 1) := by decide +kernel
theorem dJ6_bitCount_0f7a4_0 : decode cJ6_bitCount_0f7a4 0 = .ok (.iload_n 0, 1) := by decide +kernel
theorem dJ6_bitCount_0f7a4_1 : decode cJ6_bitCount_0f7a4 1 = .ok (.iload_n 0, 1) := by decide +kernel
theorem dJ6_bitCount_0f7a4_2 : decode cJ6_bitCount_0f7a4 2 = .ok (.iconst 1, 1) := by decide +kernel
theorem dJ6_bitCount_0f7a4_3 : decode cJ6_bitCount_0f7a4 3 = .ok (.iushr, 1) := by decide +kernel
theorem dJ6_bitCount_0f7a4_4 : decode cJ6_bitCount_0f7a4 4 = .ok (.ldc_w 265, 3) := by decide +kernel
theorem dJ6_bitCount_0f7a4_7 : decode cJ6_bitCount_0f7a4 7 = .ok (.iand, 1) := by decide +kernel
theorem dJ6_bitCount_0f7a4_8 : decode cJ6_bitCount_0f7a4 8 = .ok (.isub, 1) := by decide +kernel
theorem dJ6_bitCount_0f7a4_9 : decode cJ6_bitCount_0f7a4 9 = .ok (.istore_n 0, 1) := by decide +kernel
theorem dJ6_bitCount_0f7a4_10 : decode cJ6_bitCount_0f7a4 10 = .ok (.iload_n 0, 1) := by decide +kernel
theorem dJ6_bitCount_0f7a4_11 : decode cJ6_bitCount_0f7a4 11 = .ok (.ldc_w 266, 3) := by decide +kernel
theorem dJ6_bitCount_0f7a4_14 : decode cJ6_bitCount_0f7a4 14 = .ok (.iand, 1) := by decide +kernel
theorem dJ6_bitCount_0f7a4_15 : decode cJ6_bitCount_0f7a4 15 = .ok (.iload_n 0, 1) := by decide +kernel
theorem dJ6_bitCount_0f7a4_16 : decode cJ6_bitCount_0f7a4 16 = .ok (.iconst 2, 1) := by decide +kernel
theorem dJ6_bitCount_0f7a4_17 : decode cJ6_bitCount_0f7a4 17 = .ok (.iushr, 1) := by decide +kernel
theorem dJ6_bitCount_0f7a4_18 : decode cJ6_bitCount_0f7a4 18 = .ok (.ldc_w 266, 3) := by decide +kernel
theorem dJ6_bitCount_0f7a4_21 : decode cJ6_bitCount_0f7a4 21 = .ok (.iand, 1) := by decide +kernel
theorem dJ6_bitCount_0f7a4_22 : decode cJ6_bitCount_0f7a4 22 = .ok (.iadd, 1) := by decide +kernel
theorem dJ6_bitCount_0f7a4_23 : decode cJ6_bitCount_0f7a4 23 = .ok (.istore_n 0, 1) := by decide +kernel
theorem dJ6_bitCount_0f7a4_24 : decode cJ6_bitCount_0f7a4 24 = .ok (.iload_n 0, 1) := by decide +kernel
theorem dJ6_bitCount_0f7a4_25 : decode cJ6_bitCount_0f7a4 25 = .ok (.iload_n 0, 1) := by decide +kernel
theorem dJ6_bitCount_0f7a4_26 : decode cJ6_bitCount_0f7a4 26 = .ok (.iconst 4, 1) := by decide +kernel
theorem dJ6_bitCount_0f7a4_27 : decode cJ6_bitCount_0f7a4 27 = .ok (.iushr, 1) := by decide +kernel
theorem dJ6_bitCount_0f7a4_28 : decode cJ6_bitCount_0f7a4 28 = .ok (.iadd, 1) := by decide +kernel
theorem dJ6_bitCount_0f7a4_29 : decode cJ6_bitCount_0f7a4 29 = .ok (.ldc_w 267, 3) := by decide +kernel
theorem dJ6_bitCount_0f7a4_32 : decode cJ6_bitCount_0f7a4 32 = .ok (.iand, 1) := by decide +kernel
theorem dJ6_bitCount_0f7a4_33 : decode cJ6_bitCount_0f7a4 33 = .ok (.istore_n 0, 1) := by decide +kernel
theorem dJ6_bitCount_0f7a4_34 : decode cJ6_bitCount_0f7a4 34 = .ok (.iload_n 0, 1) := by decide +kernel
theorem dJ6_bitCount_0f7a4_35 : decode cJ6_bitCount_0f7a4 35 = .ok (.iload_n 0, 1) := by decide +kernel
theorem dJ6_bitCount_0f7a4_36 : decode cJ6_bitCount_0f7a4 36 = .ok (.bipush 8, 2) := by decide +kernel
theorem dJ6_bitCount_0f7a4_38 : decode cJ6_bitCount_0f7a4 38 = .ok (.iushr, 1) := by decide +kernel
theorem dJ6_bitCount_0f7a4_39 : decode cJ6_bitCount_0f7a4 39 = .ok (.iadd, 1) := by decide +kernel
theorem dJ6_bitCount_0f7a4_40 : decode cJ6_bitCount_0f7a4 40 = .ok (.istore_n 0, 1) := by decide +kernel
theorem dJ6_bitCount_0f7a4_41 : decode cJ6_bitCount_0f7a4 41 = .ok (.iload_n 0, 1) := by decide +kernel
theorem dJ6_bitCount_0f7a4_42 : decode cJ6_bitCount_0f7a4 42 = .ok (.iload_n 0, 1) := by decide +kernel
theorem dJ6_bitCount_0f7a4_43 : decode cJ6_bitCount_0f7a4 43 = .ok (.bipush 16, 2) := by decide +kernel
theorem dJ6_bitCount_0f7a4_45 : decode cJ6_bitCount_0f7a4 45 = .ok (.iushr, 1) := by decide +kernel
theorem dJ6_bitCount_0f7a4_46 : decode cJ6_bitCount_0f7a4 46 = .ok (.iadd, 1) := by decide +kernel
theorem dJ6_bitCount_0f7a4_47 : decode cJ6_bitCount_0f7a4 47 = .ok (.istore_n 0, 1) := by decide +kernel
theorem dJ6_bitCount_0f7a4_48 : decode cJ6_bitCount_0f7a4 48 = .ok (.iload_n 0, 1) := by decide +kernel
theorem dJ6_bitCount_0f7a4_49 : decode cJ6_bitCount_0f7a4 49 = .ok (.bipush 63, 2) := by decide +kernel
theorem dJ6_bitCount_0f7a4_51 : decode cJ6_bitCount_0f7a4 51 = .ok (.iand, 1) := by decide +kernel
theorem dJ6_bitCount_0f7a4_52 : decode cJ6_bitCount_0f7a4 52 = .ok (.ireturn, 1) := by decide +kernel
theorem dJ9_floorDiv_7cf53_0 : decode cJ9_floorDiv_7cf53 0 = .ok (.iload_n 0, 1) := by decide +kernel
theorem dJ9_floorDiv_7cf53_1 : decode cJ9_floorDiv_7cf53 1 = .ok (.iload_n 1, 1) := by decide +kernel
theorem dJ9_floorDiv_7cf53_2 : decode cJ9_floorDiv_7cf53 2 = .ok (.idiv, 1) := by decide +kernel
theorem dJ9_floorDiv_7cf53_3 : decode cJ9_floorDiv_7cf53 3 = .ok (.istore_n 2, 1) := by decide +kernel
theorem dJ9_floorDiv_7cf53_4 : decode cJ9_floorDiv_7cf53 4 = .ok (.iload_n 0, 1) := by decide +kernel
theorem dJ9_floorDiv_7cf53_5 : decode cJ9_floorDiv_7cf53 5 = .ok (.iload_n 1, 1) := by decide +kernel
theorem dJ9_floorDiv_7cf53_6 : decode cJ9_floorDiv_7cf53 6 = .ok (.ixor, 1) := by decide +kernel
theorem dJ9_floorDiv_7cf53_7 : decode cJ9_floorDiv_7cf53 7 = .ok (.ifCond .ge 14, 3) := by decide +kernel
theorem dJ9_floorDiv_7cf53_10 : decode cJ9_floorDiv_7cf53 10 = .ok (.iload_n 2, 1) := by decide +kernel
theorem dJ9_floorDiv_7cf53_11 : decode cJ9_floorDiv_7cf53 11 = .ok (.iload_n 1, 1) := by decide +kernel
theorem dJ9_floorDiv_7cf53_12 : decode cJ9_floorDiv_7cf53 12 = .ok (.imul, 1) := by decide +kernel
theorem dJ9_floorDiv_7cf53_13 : decode cJ9_floorDiv_7cf53 13 = .ok (.iload_n 0, 1) := by decide +kernel
theorem dJ9_floorDiv_7cf53_14 : decode cJ9_floorDiv_7cf53 14 = .ok (.if_icmp .eq 7, 3) := by decide +kernel
theorem dJ9_floorDiv_7cf53_17 : decode cJ9_floorDiv_7cf53 17 = .ok (.iload_n 2, 1) := by decide +kernel
theorem dJ9_floorDiv_7cf53_18 : decode cJ9_floorDiv_7cf53 18 = .ok (.iconst 1, 1) := by decide +kernel
theorem dJ9_floorDiv_7cf53_19 : decode cJ9_floorDiv_7cf53 19 = .ok (.isub, 1) := by decide +kernel
theorem dJ9_floorDiv_7cf53_20 : decode cJ9_floorDiv_7cf53 20 = .ok (.ireturn, 1) := by decide +kernel
theorem dJ9_floorDiv_7cf53_21 : decode cJ9_floorDiv_7cf53 21 = .ok (.iload_n 2, 1) := by decide +kernel
theorem dJ9_floorDiv_7cf53_22 : decode cJ9_floorDiv_7cf53 22 = .ok (.ireturn, 1) := by decide +kernel
theorem dJ9_abs_0f7a4_0 : decode cJ9_abs_0f7a4 0 = .ok (.iload_n 0, 1) := by decide +kernel
theorem dJ9_abs_0f7a4_1 : decode cJ9_abs_0f7a4 1 = .ok (.ifCond .ge 8, 3) := by decide +kernel
theorem dJ9_abs_0f7a4_4 : decode cJ9_abs_0f7a4 4 = .ok (.iload_n 0, 1) := by decide +kernel
theorem dJ9_abs_0f7a4_5 : decode cJ9_abs_0f7a4 5 = .ok (.ineg, 1) := by decide +kernel
theorem dJ9_abs_0f7a4_6 : decode cJ9_abs_0f7a4 6 = .ok (.goto 4, 3) := by decide +kernel
theorem dJ9_abs_0f7a4_9 : decode cJ9_abs_0f7a4 9 = .ok (.iload_n 0, 1) := by decide +kernel
theorem dJ9_abs_0f7a4_10 : decode cJ9_abs_0f7a4 10 = .ok (.ireturn, 1) := by decide +kernel
theorem dJ9_abs_067f4_0 : decode cJ9_abs_067f4 0 = .ok (.lload_n 0, 1) := by decide +kernel
theorem dJ9_abs_067f4_1 : decode cJ9_abs_067f4 1 = .ok (.lconst 0, 1) := by decide +kernel
theorem dJ9_abs_067f4_2 : decode cJ9_abs_067f4 2 = .ok (.lcmp, 1) := by decide +kernel
theorem dJ9_abs_067f4_3 : decode cJ9_abs_067f4 3 = .ok (.ifCond .ge 8, 3) := by decide +kernel
theorem dJ9_abs_067f4_6 : decode cJ9_abs_067f4 6 = .ok (.lload_n 0, 1) := by decide +kernel
theorem dJ9_abs_067f4_7 : decode cJ9_abs_067f4 7 = .ok (.lneg, 1) := by decide +kernel
theorem dJ9_abs_067f4_8 : decode cJ9_abs_067f4 8 = .ok (.goto 4, 3) := by decide +kernel
theorem dJ9_abs_067f4_11 : decode cJ9_abs_067f4 11 = .ok (.lload_n 0, 1) := by decide +kernel
theorem dJ9_abs_067f4_12 : decode cJ9_abs_067f4 12 = .ok (.lreturn, 1) := by decide +kernel
theorem dJ9_max_7cf53_0 : decode cJ9_max_7cf53 0 = .ok (.iload_n 0, 1) := by decide +kernel
theorem dJ9_max_7cf53_1 : decode cJ9_max_7cf53 1 = .ok (.iload_n 1, 1) := by decide +kernel
theorem dJ9_max_7cf53_2 : decode cJ9_max_7cf53 2 = .ok (.if_icmp .lt 7, 3) := by decide +kernel
theorem dJ9_max_7cf53_5 : decode cJ9_max_7cf53 5 = .ok (.iload_n 0, 1) := by decide +kernel
theorem dJ9_max_7cf53_6 : decode cJ9_max_7cf53 6 = .ok (.goto 4, 3) := by decide +kernel
theorem dJ9_max_7cf53_9 : decode cJ9_max_7cf53 9 = .ok (.iload_n 1, 1) := by decide +kernel
theorem dJ9_max_7cf53_10 : decode cJ9_max_7cf53 10 = .ok (.ireturn, 1) := by decide +kernel
theorem dJ9_min_7cf53_0 : decode cJ9_min_7cf53 0 = .ok (.iload_n 0, 1) := by decide +kernel
theorem dJ9_min_7cf53_1 : decode cJ9_min_7cf53 1 = .ok (.iload_n 1, 1) := by decide +kernel
theorem dJ9_min_7cf53_2 : decode cJ9_min_7cf53 2 = .ok (.if_icmp .gt 7, 3) := by decide +kernel
theorem dJ9_min_7cf53_5 : decode cJ9_min_7cf53 5 = .ok (.iload_n 0, 1) := by decide +kernel
theorem dJ9_min_7cf53_6 : decode cJ9_min_7cf53 6 = .ok (.goto 4, 3) := by decide +kernel
theorem dJ9_min_7cf53_9 : decode cJ9_min_7cf53 9 = .ok (.iload_n 1, 1) := by decide +kernel
theorem dJ9_min_7cf53_10 : decode cJ9_min_7cf53 10 = .ok (.ireturn, 1) := by decide +kernel
