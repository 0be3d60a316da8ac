set_option maxRecDepth 20000 in
theorem ggX9_many_X5_gather : GoodIn wsX9_many wsX5_gather := goodIn_r _ [13, 14, 15, 16, 17, 18, 19, 20, 21, 22, 23, 24, 25, 26, 27, 28, 29, 30, 31, 32, 33, 34, 35, 36, 37, 38, 39, 40, 41, 42, 43, 44, 45, 46, 47, 48, 49, 50, 51, 52, 53, 54, 55, 56, 57, 58, 59, 60, 61, 62, 63, 64, 65, 66, 67, 68, 69, 70, 71, 72, 73, 74, 75, 76, 77, 78, 79, 80, 81, 94, 95, 96, 97, 98, 99, 100, 101, 102, 103, 104, 105, 106, 107, 108, 109, 110, 111, 112, 113, 114, 115, 116, 117, 118, 119, 120, 121, 122, 123, 124, 125, 126, 127, 128, 129, 130, 131, 132, 133, 134, 135, 136, 137, 138, 139, 140, 141, 142, 143, 144] (by decide +kernel) (by decide +kernel)
set_option maxRecDepth 20000 in
theorem gX9_many_X5_gather : GoodIn wsX9_many (wsV RX9 116 RX5 yX5_gather wsX5_gather) := goodIn_app (goodIn_of _ (by decide +kernel)) ggX9_many_X5_gather
set_option maxRecDepth 20000 in
theorem ggX9_many_X5_size : GoodIn wsX9_many wsX5_size := goodIn_r _ [85, 14, 94, 95, 96] (by decide +kernel) (by decide +kernel)
set_option maxRecDepth 20000 in
theorem gX9_many_X5_size : GoodIn wsX9_many (wsV RX9 120 RX5 yX5_size wsX5_size) := goodIn_app (goodIn_of _ (by decide +kernel)) ggX9_many_X5_size
theorem dX9_many_0 : decode cX9_many 0 = .ok (.aload_n 0, 1) := by decide +kernel
theorem dX9_many_1 : decode cX9_many 1 = .ok (.iload_n 1, 1) := by decide +kernel
theorem dX9_many_2 : decode cX9_many 2 = .ok (.invokevirtual 65, 3) := by decide +kernel
theorem dX9_many_5 : decode cX9_many 5 = .ok (.astore_n 2, 1) := by decide +kernel
theorem dX9_many_6 : decode cX9_many 6 = .ok (.aload_n 2, 1) := by decide +kernel
theorem dX9_many_7 : decode cX9_many 7 = .ok (.ifnonnull 5, 3) := by decide +kernel
theorem dX9_many_10 : decode cX9_many 10 = .ok (.iconst (-1), 1) := by decide +kernel
theorem dX9_many_11 : decode cX9_many 11 = .ok (.ireturn, 1) := by decide +kernel
theorem dX9_many_12 : decode cX9_many 12 = .ok (.aload_n 0, 1) := by decide +kernel
theorem dX9_many_13 : decode cX9_many 13 = .ok (.getfield 18, 3) := by decide +kernel
theorem dX9_many_16 : decode cX9_many 16 = .ok (.aload_n 2, 1) := by decide +kernel
theorem dX9_many_17 : decode cX9_many 17 = .ok (.iconst 0, 1) := by decide +kernel
theorem dX9_many_18 : decode cX9_many 18 = .ok (.invokevirtual 116, 3) := by decide +kernel
theorem dX9_many_21 : decode cX9_many 21 = .ok (.aload_n 0, 1) := by decide +kernel
theorem dX9_many_22 : decode cX9_many 22 = .ok (.getfield 18, 3) := by decide +kernel
theorem dX9_many_25 : decode cX9_many 25 = .ok (.invokevirtual 120, 3) := by decide +kernel
theorem dX9_many_28 : decode cX9_many 28 = .ok (.ireturn, 1) := by decide +kernel
theorem dX9_rate_0 : decode cX9_rate 0 = .ok (.aload_n 0, 1) := by decide +kernel
theorem dX9_rate_1 : decode cX9_rate 1 = .ok (.iload_n 1, 1) := by decide +kernel
theorem dX9_rate_2 : decode cX9_rate 2 = .ok (.invokevirtual 65, 3) := by decide +kernel
theorem dX9_rate_5 : decode cX9_rate 5 = .ok (.astore 4, 2) := by decide +kernel
theorem dX9_rate_7 : decode cX9_rate 7 = .ok (.aload 4, 2) := by decide +kernel
theorem dX9_rate_9 : decode cX9_rate 9 = .ok (.ifnull 10, 3) := by decide +kernel
theorem dX9_rate_12 : decode cX9_rate 12 = .ok (.iload_n 2, 1) := by decide +kernel
theorem dX9_rate_13 : decode cX9_rate 13 = .ok (.invokestatic 94, 3) := by decide +kernel
theorem dX9_rate_16 : decode cX9_rate 16 = .ok (.ifCond .ne 13, 3) := by decide +kernel
theorem dX9_rate_19 : decode cX9_rate 19 = .ok (.new 97, 3) := by decide +kernel
theorem dX9_rate_22 : decode cX9_rate 22 = .ok (.dup, 1) := by decide +kernel
theorem dX9_rate_23 : decode cX9_rate 23 = .ok (.ldc 123, 2) := by decide +kernel
theorem dX9_rate_25 : decode cX9_rate 25 = .ok (.invokespecial 101, 3) := by decide +kernel
theorem dX9_rate_28 : decode cX9_rate 28 = .ok (.athrow, 1) := by decide +kernel
theorem dX9_rate_29 : decode cX9_rate 29 = .ok (.aload_n 0, 1) := by decide +kernel
theorem dX9_rate_30 : decode cX9_rate 30 = .ok (.getfield 18, 3) := by decide +kernel
theorem dX9_rate_33 : decode cX9_rate 33 = .ok (.aload 4, 2) := by decide +kernel
theorem dX9_rate_35 : decode cX9_rate 35 = .ok (.iload_n 2, 1) := by decide +kernel
theorem dX9_rate_36 : decode cX9_rate 36 = .ok (.invokevirtual 116, 3) := by decide +kernel
theorem dX9_rate_39 : decode cX9_rate 39 = .ok (.aload_n 0, 1) := by decide +kernel
theorem dX9_rate_40 : decode cX9_rate 40 = .ok (.getfield 18, 3) := by decide +kernel
theorem dX9_rate_43 : decode cX9_rate 43 = .ok (.invokevirtual 120, 3) := by decide +kernel
theorem dX9_rate_46 : decode cX9_rate 46 = .ok (.iconst 2, 1) := by decide +kernel
theorem dX9_rate_47 : decode cX9_rate 47 = .ok (.if_icmp .ge 13, 3) := by decide +kernel
theorem dX9_rate_50 : decode cX9_rate 50 = .ok (.new 107, 3) := by decide +kernel
theorem dX9_rate_53 : decode cX9_rate 53 = .ok (.dup, 1) := by decide +kernel
theorem dX9_rate_54 : decode cX9_rate 54 = .ok (.ldc 125, 2) := by decide +kernel
theorem dX9_rate_56 : decode cX9_rate 56 = .ok (.invokespecial 111, 3) := by decide +kernel
theorem dX9_rate_59 : decode cX9_rate 59 = .ok (.athrow, 1) := by decide +kernel
theorem dX9_rate_60 : decode cX9_rate 60 = .ok (.aload_n 0, 1) := by decide +kernel
theorem dX9_rate_61 : decode cX9_rate 61 = .ok (.getfield 18, 3) := by decide +kernel
theorem dX9_rate_64 : decode cX9_rate 64 = .ok (.invokevirtual 127, 3) := by decide +kernel
theorem dX9_rate_67 : decode cX9_rate 67 = .ok (.aload_n 0, 1) := by decide +kernel
theorem dX9_rate_68 : decode cX9_rate 68 = .ok (.getfield 18, 3) := by decide +kernel
theorem dX9_rate_71 : decode cX9_rate 71 = .ok (.invokevirtual 131, 3) := by decide +kernel
theorem dX9_rate_74 : decode cX9_rate 74 = .ok (.iload_n 3, 1) := by decide +kernel
theorem dX9_rate_75 : decode cX9_rate 75 = .ok (.invokestatic 134, 3) := by decide +kernel
theorem dX9_rate_78 : decode cX9_rate 78 = .ok (.lreturn, 1) := by decide +kernel
set_option maxRecDepth 20000 in
theorem ggX9_jump_X9_markAt : GoodIn wsX9_jump wsX9_markAt := goodIn_r _ [6, 7, 8, 93, 94, 95, 96, 97, 98, 99, 100] (by decide +kernel) (by decide +kernel)
set_option maxRecDepth 20000 in
theorem gX9_jump_X9_markAt : GoodIn wsX9_jump (wsV RX9 65 RX9 yX9_markAt wsX9_markAt) := goodIn_app (goodIn_of _ (by decide +kernel)) ggX9_jump_X9_markAt
set_option maxRecDepth 20000 in
theorem ggX9_jump_X9_isSide : GoodIn wsX9_jump wsX9_isSide := goodIn_r _ [11] (by decide +kernel) (by decide +kernel)
set_option maxRecDepth 20000 in
theorem gX9_jump_X9_isSide : GoodIn wsX9_jump (va_wsS RX9 94 yX9_isSide wsX9_isSide) := goodIn_app (goodIn_of _ (by decide +kernel)) ggX9_jump_X9_isSide
set_option maxRecDepth 20000 in
theorem ggX9_jump_X5_gather : GoodIn wsX9_jump wsX5_gather := goodIn_r _ [16, 17, 18, 19, 20, 21, 22, 23, 24, 25, 26, 27, 28, 29, 30, 31, 32, 33, 34, 35, 36, 37, 38, 39, 40, 41, 42, 43, 44, 45, 46, 47, 48, 49, 50, 51, 52, 53, 54, 55, 56, 57, 58, 59, 60, 61, 62, 63, 64, 65, 66, 67, 68, 69, 70, 71, 72, 73, 74, 75, 76, 77, 78, 79, 80, 81, 82, 83, 84, 101, 102, 103, 104, 105, 106, 107, 108, 109, 110, 111, 112, 113, 114, 115, 116, 117, 118, 119, 120, 121, 122, 123, 124, 125, 126, 127, 128, 129, 130, 131, 132, 133, 134, 135, 136, 137, 138, 139, 140, 141, 142, 143, 144, 145, 146, 147, 148, 149, 150, 151] (by decide +kernel) (by decide +kernel)
set_option maxRecDepth 20000 in
theorem gX9_jump_X5_gather : GoodIn wsX9_jump (wsV RX9 116 RX5 yX5_gather wsX5_gather) := goodIn_app (goodIn_of _ (by decide +kernel)) ggX9_jump_X5_gather
set_option maxRecDepth 20000 in
theorem ggX9_jump_X5_jumpEpoch : GoodIn wsX9_jump wsX5_jumpEpoch := goodIn_r _ [88, 17, 19, 89, 90, 91, 92, 18, 101, 102, 103] (by decide +kernel) (by decide +kernel)
set_option maxRecDepth 20000 in
theorem gX9_jump_X5_jumpEpoch : GoodIn wsX9_jump (wsV RX9 138 RX5 yX5_jumpEpoch wsX5_jumpEpoch) := goodIn_app (goodIn_of _ (by decide +kernel)) ggX9_jump_X5_jumpEpoch
theorem dX9_jump_0 : decode cX9_jump 0 = .ok (.aload_n 0, 1) := by decide +kernel
theorem dX9_jump_1 : decode cX9_jump 1 = .ok (.iload_n 1, 1) := by decide +kernel
theorem dX9_jump_2 : decode cX9_jump 2 = .ok (.invokevirtual 65, 3) := by decide +kernel
theorem dX9_jump_5 : decode cX9_jump 5 = .ok (.astore_n 3, 1) := by decide +kernel
theorem dX9_jump_6 : decode cX9_jump 6 = .ok (.aload_n 3, 1) := by decide +kernel
theorem dX9_jump_7 : decode cX9_jump 7 = .ok (.ifnull 10, 3) := by decide +kernel
theorem dX9_jump_10 : decode cX9_jump 10 = .ok (.iload_n 2, 1) := by decide +kernel
theorem dX9_jump_11 : decode cX9_jump 11 = .ok (.invokestatic 94, 3) := by decide +kernel
theorem dX9_jump_14 : decode cX9_jump 14 = .ok (.ifCond .ne 5, 3) := by decide +kernel
theorem dX9_jump_17 : decode cX9_jump 17 = .ok (.iconst (-1), 1) := by decide +kernel
theorem dX9_jump_18 : decode cX9_jump 18 = .ok (.ireturn, 1) := by decide +kernel
theorem dX9_jump_19 : decode cX9_jump 19 = .ok (.aload_n 0, 1) := by decide +kernel
theorem dX9_jump_20 : decode cX9_jump 20 = .ok (.getfield 18, 3) := by decide +kernel
theorem dX9_jump_23 : decode cX9_jump 23 = .ok (.aload_n 3, 1) := by decide +kernel
theorem dX9_jump_24 : decode cX9_jump 24 = .ok (.iload_n 2, 1) := by decide +kernel
theorem dX9_jump_25 : decode cX9_jump 25 = .ok (.invokevirtual 116, 3) := by decide +kernel
theorem dX9_jump_28 : decode cX9_jump 28 = .ok (.aload_n 0, 1) := by decide +kernel
theorem dX9_jump_29 : decode cX9_jump 29 = .ok (.getfield 18, 3) := by decide +kernel
theorem dX9_jump_32 : decode cX9_jump 32 = .ok (.invokevirtual 138, 3) := by decide +kernel
theorem dX9_jump_35 : decode cX9_jump 35 = .ok (.ireturn, 1) := by decide +kernel
theorem dX9_common_0 : decode cX9_common 0 = .ok (.iload_n 1, 1) := by decide +kernel
theorem dX9_common_1 : decode cX9_common 1 = .ok (.invokestatic 69, 3) := by decide +kernel
theorem dX9_common_4 : decode cX9_common 4 = .ok (.ifCond .eq 10, 3) := by decide +kernel
theorem dX9_common_7 : decode cX9_common 7 = .ok (.iload_n 2, 1) := by decide +kernel
theorem dX9_common_8 : decode cX9_common 8 = .ok (.invokestatic 94, 3) := by decide +kernel
theorem dX9_common_11 : decode cX9_common 11 = .ok (.ifCond .ne 13, 3) := by decide +kernel
theorem dX9_common_14 : decode cX9_common 14 = .ok (.new 97, 3) := by decide +kernel
theorem dX9_common_17 : decode cX9_common 17 = .ok (.dup, 1) := by decide +kernel
theorem dX9_common_18 : decode cX9_common 18 = .ok (.ldc 141, 2) := by decide +kernel
theorem dX9_common_20 : decode cX9_common 20 = .ok (.invokespecial 101, 3) := by decide +kernel
theorem dX9_common_23 : decode cX9_common 23 = .ok (.athrow, 1) := by decide +kernel
theorem dX9_common_24 : decode cX9_common 24 = .ok (.lconst 0, 1) := by decide +kernel
theorem dX9_common_25 : decode cX9_common 25 = .ok (.lstore_n 3, 1) := by decide +kernel
theorem dX9_common_26 : decode cX9_common 26 = .ok (.iconst 0, 1) := by decide +kernel
theorem dX9_common_27 : decode cX9_common 27 = .ok (.istore 5, 2) := by decide +kernel
theorem dX9_common_29 : decode cX9_common 29 = .ok (.iconst 0, 1) := by decide +kernel
theorem dX9_common_30 : decode cX9_common 30 = .ok (.istore 6, 2) := by decide +kernel
theorem dX9_common_32 : decode cX9_common 32 = .ok (.iload 6, 2) := by decide +kernel
theorem dX9_common_34 : decode cX9_common 34 = .ok (.aload_n 0, 1) := by decide +kernel
theorem dX9_common_35 : decode cX9_common 35 = .ok (.getfield 54, 3) := by decide +kernel
theorem dX9_common_38 : decode cX9_common 38 = .ok (.if_icmp .ge 57, 3) := by decide +kernel
theorem dX9_common_41 : decode cX9_common 41 = .ok (.aload_n 0, 1) := by decide +kernel
theorem dX9_common_42 : decode cX9_common 42 = .ok (.iload 6, 2) := by decide +kernel
theorem dX9_common_44 : decode cX9_common 44 = .ok (.invokevirtual 65, 3) := by decide +kernel
theorem dX9_common_47 : decode cX9_common 47 = .ok (.astore 7, 2) := by decide +kernel
theorem dX9_common_49 : decode cX9_common 49 = .ok (.aload 7, 2) := by decide +kernel
theorem dX9_common_51 : decode cX9_common 51 = .ok (.ifnull 38, 3) := by decide +kernel
theorem dX9_common_54 : decode cX9_common 54 = .ok (.aload 7, 2) := by decide +kernel
theorem dX9_common_56 : decode cX9_common 56 = .ok (.iload_n 1, 1) := by decide +kernel
theorem dX9_common_57 : decode cX9_common 57 = .ok (.invokevirtual 104, 3) := by decide +kernel
theorem dX9_common_60 : decode cX9_common 60 = .ok (.ifCond .eq 29, 3) := by decide +kernel
theorem dX9_common_63 : decode cX9_common 63 = .ok (.lload_n 3, 1) := by decide +kernel
theorem dX9_common_64 : decode cX9_common 64 = .ok (.aload 7, 2) := by decide +kernel
theorem dX9_common_66 : decode cX9_common 66 = .ok (.iload_n 1, 1) := by decide +kernel
theorem dX9_common_67 : decode cX9_common 67 = .ok (.iload_n 2, 1) := by decide +kernel
theorem dX9_common_68 : decode cX9_common 68 = .ok (.invokevirtual 112, 3) := by decide +kernel
theorem dX9_common_71 : decode cX9_common 71 = .ok (.aload 7, 2) := by decide +kernel
theorem dX9_common_73 : decode cX9_common 73 = .ok (.aload 7, 2) := by decide +kernel
theorem dX9_common_75 : decode cX9_common 75 = .ok (.iload_n 1, 1) := by decide +kernel
theorem dX9_common_76 : decode cX9_common 76 = .ok (.invokevirtual 143, 3) := by decide +kernel
theorem dX9_common_79 : decode cX9_common 79 = .ok (.iload_n 2, 1) := by decide +kernel
theorem dX9_common_80 : decode cX9_common 80 = .ok (.invokevirtual 112, 3) := by decide +kernel
theorem dX9_common_83 : decode cX9_common 83 = .ok (.lsub, 1) := by decide +kernel
theorem dX9_common_84 : decode cX9_common 84 = .ok (.ladd, 1) := by decide +kernel
theorem dX9_common_85 : decode cX9_common 85 = .ok (.lstore_n 3, 1) := by decide +kernel
theorem dX9_common_86 : decode cX9_common 86 = .ok (.iinc 5 1, 3) := by decide +kernel
theorem dX9_common_89 : decode cX9_common 89 = .ok (.iinc 6 1, 3) := by decide +kernel
theorem dX9_common_92 : decode cX9_common 92 = .ok (.goto (-60), 3) := by decide +kernel
theorem dX9_common_95 : decode cX9_common 95 = .ok (.iload 5, 2) := by decide +kernel
theorem dX9_common_97 : decode cX9_common 97 = .ok (.ifCond .ne 13, 3) := by decide +kernel
theorem dX9_common_100 : decode cX9_common 100 = .ok (.new 107, 3) := by decide +kernel
theorem dX9_common_103 : decode cX9_common 103 = .ok (.dup, 1) := by decide +kernel
theorem dX9_common_104 : decode cX9_common 104 = .ok (.ldc 147, 2) := by decide +kernel
theorem dX9_common_106 : decode cX9_common 106 = .ok (.invokespecial 111, 3) := by decide +kernel
theorem dX9_common_109 : decode cX9_common 109 = .ok (.athrow, 1) := by decide +kernel
theorem dX9_common_110 : decode cX9_common 110 = .ok (.lload_n 3, 1) := by decide +kernel
theorem dX9_common_111 : decode cX9_common 111 = .ok (.iload 5, 2) := by decide +kernel
theorem dX9_common_113 : decode cX9_common 113 = .ok (.i2l, 1) := by decide +kernel
theorem dX9_common_114 : decode cX9_common 114 = .ok (.ldiv, 1) := by decide +kernel
theorem dX9_common_115 : decode cX9_common 115 = .ok (.lreturn, 1) := by decide +kernel
set_option maxRecDepth 20000 in
theorem ggX9_velocity_X9_markAt : GoodIn wsX9_velocity wsX9_markAt := goodIn_r _ [5, 6, 7, 49, 50, 51, 52, 53, 54, 55, 56] (by decide +kernel) (by decide +kernel)
set_option maxRecDepth 20000 in
theorem gX9_velocity_X9_markAt : GoodIn wsX9_velocity (wsV RX9 65 RX9 yX9_markAt wsX9_markAt) := goodIn_app (goodIn_of _ (by decide +kernel)) ggX9_velocity_X9_markAt
set_option maxRecDepth 20000 in
theorem ggX9_velocity_X9_within : GoodIn wsX9_velocity wsX9_within := goodIn_r _ [10] (by decide +kernel) (by decide +kernel)
set_option maxRecDepth 20000 in
theorem gX9_velocity_X9_within : GoodIn wsX9_velocity (va_wsS RX9 50 yX9_within wsX9_within) := goodIn_app (goodIn_of _ (by decide +kernel)) ggX9_velocity_X9_within
set_option maxRecDepth 20000 in
theorem ggX9_velocity_X3_speed : GoodIn wsX9_velocity wsX3_speed := goodIn_r _ [16, 17, 57, 58, 59, 60, 61, 62, 63, 64, 65, 66, 67, 68, 69, 70, 71, 72, 73, 74, 75, 76, 77, 78, 79, 80, 81, 82, 83, 84, 85, 86, 87, 88, 89, 90, 91, 92, 93, 94, 95, 96, 97, 98, 99, 100, 101, 102, 103, 104] (by decide +kernel) (by decide +kernel)
set_option maxRecDepth 20000 in
theorem gX9_velocity_X3_speed_u149X1 : GoodIn wsX9_velocity (va_wsU RX9 149 RX1 "CreepBoard$Mark" ⟨"CreepBoard$Mark", "speed", "(I)I"⟩ yX3_speed wsX3_speed) := goodIn_app (goodIn_of _ (by decide +kernel)) ggX9_velocity_X3_speed
set_option maxRecDepth 20000 in
theorem gX9_velocity_X3_speed : GoodIn wsX9_velocity (wsV RX9 149 RX3 yX3_speed wsX3_speed) := goodIn_app (goodIn_of _ (by decide +kernel)) ggX9_velocity_X3_speed
set_option maxRecDepth 20000 in
theorem gX9_velocity_X3_speed_u149X4 : GoodIn wsX9_velocity (va_wsU RX9 149 RX4 "CreepBoard$Mark" ⟨"CreepBoard$Mark", "speed", "(I)I"⟩ yX3_speed wsX3_speed) := goodIn_app (goodIn_of _ (by decide +kernel)) ggX9_velocity_X3_speed
set_option maxRecDepth 20000 in
theorem gX9_velocity_X3_speed_u149X8 : GoodIn wsX9_velocity (va_wsU RX9 149 RX8 "CreepBoard$Mark" ⟨"CreepBoard$Mark", "speed", "(I)I"⟩ yX3_speed wsX3_speed) := goodIn_app (goodIn_of _ (by decide +kernel)) ggX9_velocity_X3_speed
set_option maxRecDepth 20000 in
theorem ggX9_velocity_X3_setSpeed : GoodIn wsX9_velocity wsX3_setSpeed := goodIn_r _ [26, 17, 57, 58, 59, 60, 61, 62, 63, 64, 65, 66, 67, 68, 69, 70, 71, 72, 73, 74, 75, 76, 77, 78, 79, 80, 81, 82, 83, 84, 85, 86, 87, 88, 89, 90, 91, 92, 93, 94, 95, 96, 97, 98, 99, 100, 101, 102, 103, 104] (by decide +kernel) (by decide +kernel)
set_option maxRecDepth 20000 in
theorem gX9_velocity_X3_setSpeed_u152X1 : GoodIn wsX9_velocity (va_wsU RX9 152 RX1 "CreepBoard$Mark" ⟨"CreepBoard$Mark", "setSpeed", "(II)V"⟩ yX3_setSpeed wsX3_setSpeed) := goodIn_app (goodIn_of _ (by decide +kernel)) ggX9_velocity_X3_setSpeed
set_option maxRecDepth 20000 in
theorem gX9_velocity_X3_setSpeed : GoodIn wsX9_velocity (wsV RX9 152 RX3 yX3_setSpeed wsX3_setSpeed) := goodIn_app (goodIn_of _ (by decide +kernel)) ggX9_velocity_X3_setSpeed
set_option maxRecDepth 20000 in
theorem gX9_velocity_X3_setSpeed_u152X4 : GoodIn wsX9_velocity (va_wsU RX9 152 RX4 "CreepBoard$Mark" ⟨"CreepBoard$Mark", "setSpeed", "(II)V"⟩ yX3_setSpeed wsX3_setSpeed) := goodIn_app (goodIn_of _ (by decide +kernel)) ggX9_velocity_X3_setSpeed
set_option maxRecDepth 20000 in
theorem gX9_velocity_X3_setSpeed_u152X8 : GoodIn wsX9_velocity (va_wsU RX9 152 RX8 "CreepBoard$Mark" ⟨"CreepBoard$Mark", "setSpeed", "(II)V"⟩ yX3_setSpeed wsX3_setSpeed) := goodIn_app (goodIn_of _ (by decide +kernel)) ggX9_velocity_X3_setSpeed
set_option maxRecDepth 20000 in
theorem ggX9_velocity_X9_forgetMotion : GoodIn wsX9_velocity wsX9_forgetMotion := goodIn_r _ [34, 35, 36, 37, 38, 39, 40, 41, 42, 43, 44, 45, 46, 47, 48, 49, 50, 51, 52, 53, 54, 55, 56, 105, 106, 107, 108, 109, 110, 111, 112, 113, 114, 115, 116] (by decide +kernel) (by decide +kernel)
set_option maxRecDepth 20000 in
theorem gX9_velocity_X9_forgetMotion : GoodIn wsX9_velocity (wsV RX9 62 RX9 yX9_forgetMotion wsX9_forgetMotion) := goodIn_app (goodIn_of _ (by decide +kernel)) ggX9_velocity_X9_forgetMotion
theorem dX9_velocity_0 : decode cX9_velocity 0 = .ok (.aload_n 0, 1) := by decide +kernel
theorem dX9_velocity_1 : decode cX9_velocity 1 = .ok (.iload_n 1, 1) := by decide +kernel
theorem dX9_velocity_2 : decode cX9_velocity 2 = .ok (.invokevirtual 65, 3) := by decide +kernel
theorem dX9_velocity_5 : decode cX9_velocity 5 = .ok (.astore 4, 2) := by decide +kernel
theorem dX9_velocity_7 : decode cX9_velocity 7 = .ok (.aload 4, 2) := by decide +kernel
theorem dX9_velocity_9 : decode cX9_velocity 9 = .ok (.ifnull 23, 3) := by decide +kernel
theorem dX9_velocity_12 : decode cX9_velocity 12 = .ok (.iload_n 2, 1) := by decide +kernel
theorem dX9_velocity_13 : decode cX9_velocity 13 = .ok (.sipush 1000, 3) := by decide +kernel
theorem dX9_velocity_16 : decode cX9_velocity 16 = .ok (.invokestatic 50, 3) := by decide +kernel
theorem dX9_velocity_19 : decode cX9_velocity 19 = .ok (.ifCond .eq 13, 3) := by decide +kernel
theorem dX9_velocity_22 : decode cX9_velocity 22 = .ok (.iload_n 3, 1) := by decide +kernel
theorem dX9_velocity_23 : decode cX9_velocity 23 = .ok (.sipush 1000, 3) := by decide +kernel
theorem dX9_velocity_26 : decode cX9_velocity 26 = .ok (.invokestatic 50, 3) := by decide +kernel
theorem dX9_velocity_29 : decode cX9_velocity 29 = .ok (.ifCond .ne 5, 3) := by decide +kernel
theorem dX9_velocity_32 : decode cX9_velocity 32 = .ok (.iconst (-1), 1) := by decide +kernel
theorem dX9_velocity_33 : decode cX9_velocity 33 = .ok (.ireturn, 1) := by decide +kernel
theorem dX9_velocity_34 : decode cX9_velocity 34 = .ok (.aload 4, 2) := by decide +kernel
theorem dX9_velocity_36 : decode cX9_velocity 36 = .ok (.iconst 0, 1) := by decide +kernel
theorem dX9_velocity_37 : decode cX9_velocity 37 = .ok (.invokevirtual 149, 3) := by decide +kernel
theorem dX9_velocity_40 : decode cX9_velocity 40 = .ok (.iload_n 2, 1) := by decide +kernel
theorem dX9_velocity_41 : decode cX9_velocity 41 = .ok (.if_icmp .ne 13, 3) := by decide +kernel
theorem dX9_velocity_44 : decode cX9_velocity 44 = .ok (.aload 4, 2) := by decide +kernel
theorem dX9_velocity_46 : decode cX9_velocity 46 = .ok (.iconst 1, 1) := by decide +kernel
theorem dX9_velocity_47 : decode cX9_velocity 47 = .ok (.invokevirtual 149, 3) := by decide +kernel
theorem dX9_velocity_50 : decode cX9_velocity 50 = .ok (.iload_n 3, 1) := by decide +kernel
theorem dX9_velocity_51 : decode cX9_velocity 51 = .ok (.if_icmp .eq 7, 3) := by decide +kernel
theorem dX9_velocity_54 : decode cX9_velocity 54 = .ok (.iconst 1, 1) := by decide +kernel
theorem dX9_velocity_55 : decode cX9_velocity 55 = .ok (.goto 4, 3) := by decide +kernel
theorem dX9_velocity_58 : decode cX9_velocity 58 = .ok (.iconst 0, 1) := by decide +kernel
theorem dX9_velocity_59 : decode cX9_velocity 59 = .ok (.istore 5, 2) := by decide +kernel
theorem dX9_velocity_61 : decode cX9_velocity 61 = .ok (.aload 4, 2) := by decide +kernel
theorem dX9_velocity_63 : decode cX9_velocity 63 = .ok (.iload_n 2, 1) := by decide +kernel
theorem dX9_velocity_64 : decode cX9_velocity 64 = .ok (.iload_n 3, 1) := by decide +kernel
theorem dX9_velocity_65 : decode cX9_velocity 65 = .ok (.invokevirtual 152, 3) := by decide +kernel
theorem dX9_velocity_68 : decode cX9_velocity 68 = .ok (.aload_n 0, 1) := by decide +kernel
theorem dX9_velocity_69 : decode cX9_velocity 69 = .ok (.invokevirtual 62, 3) := by decide +kernel
theorem dX9_velocity_72 : decode cX9_velocity 72 = .ok (.iload 5, 2) := by decide +kernel
theorem dX9_velocity_74 : decode cX9_velocity 74 = .ok (.ifCond .eq 7, 3) := by decide +kernel
theorem dX9_velocity_77 : decode cX9_velocity 77 = .ok (.iconst 1, 1) := by decide +kernel
theorem dX9_velocity_78 : decode cX9_velocity 78 = .ok (.goto 4, 3) := by decide +kernel
theorem dX9_velocity_81 : decode cX9_velocity 81 = .ok (.iconst 0, 1) := by decide +kernel
theorem dX9_velocity_82 : decode cX9_velocity 82 = .ok (.ireturn, 1) := by decide +kernel
theorem dX9_moves_0 : decode cX9_moves 0 = .ok (.aload_n 0, 1) := by decide +kernel
theorem dX9_moves_1 : decode cX9_moves 1 = .ok (.iload_n 1, 1) := by decide +kernel
theorem dX9_moves_2 : decode cX9_moves 2 = .ok (.invokevirtual 65, 3) := by decide +kernel
theorem dX9_moves_5 : decode cX9_moves 5 = .ok (.astore_n 3, 1) := by decide +kernel
theorem dX9_moves_6 : decode cX9_moves 6 = .ok (.aload_n 3, 1) := by decide +kernel
theorem dX9_moves_7 : decode cX9_moves 7 = .ok (.ifnull 10, 3) := by decide +kernel
theorem dX9_moves_10 : decode cX9_moves 10 = .ok (.iload_n 2, 1) := by decide +kernel
theorem dX9_moves_11 : decode cX9_moves 11 = .ok (.invokestatic 94, 3) := by decide +kernel
theorem dX9_moves_14 : decode cX9_moves 14 = .ok (.ifCond .ne 13, 3) := by decide +kernel
theorem dX9_moves_17 : decode cX9_moves 17 = .ok (.new 97, 3) := by decide +kernel
theorem dX9_moves_20 : decode cX9_moves 20 = .ok (.dup, 1) := by decide +kernel
theorem dX9_moves_21 : decode cX9_moves 21 = .ok (.ldc 123, 2) := by decide +kernel
theorem dX9_moves_23 : decode cX9_moves 23 = .ok (.invokespecial 101, 3) := by decide +kernel
theorem dX9_moves_26 : decode cX9_moves 26 = .ok (.athrow, 1) := by decide +kernel
theorem dX9_moves_27 : decode cX9_moves 27 = .ok (.aload_n 3, 1) := by decide +kernel
theorem dX9_moves_28 : decode cX9_moves 28 = .ok (.iload_n 2, 1) := by decide +kernel
theorem dX9_moves_29 : decode cX9_moves 29 = .ok (.invokevirtual 149, 3) := by decide +kernel
theorem dX9_moves_32 : decode cX9_moves 32 = .ok (.i2l, 1) := by decide +kernel
theorem dX9_moves_33 : decode cX9_moves 33 = .ok (.lreturn, 1) := by decide +kernel
set_option maxRecDepth 20000 in
theorem ggX9_frame_X9_within : GoodIn wsX9_frame wsX9_within := goodIn_r _ [6] (by decide +kernel) (by decide +kernel)
set_option maxRecDepth 20000 in
theorem gX9_frame_X9_within : GoodIn wsX9_frame (va_wsS RX9 50 yX9_within wsX9_within) := goodIn_app (goodIn_of _ (by decide +kernel)) ggX9_frame_X9_within
set_option maxRecDepth 20000 in
theorem ggX9_frame_X9_markAt : GoodIn wsX9_frame wsX9_markAt := goodIn_r _ [10, 1, 11, 76, 77, 78, 79, 80, 81, 82, 83] (by decide +kernel) (by decide +kernel)
set_option maxRecDepth 20000 in
theorem gX9_frame_X9_markAt : GoodIn wsX9_frame (wsV RX9 65 RX9 yX9_markAt wsX9_markAt) := goodIn_app (goodIn_of _ (by decide +kernel)) ggX9_frame_X9_markAt
set_option maxRecDepth 20000 in
theorem ggX9_frame_X9_eastInFrame : GoodIn wsX9_frame wsX9_eastInFrame := goodIn_r _ [14, 15, 16, 17, 18, 19, 20, 21, 22, 23, 24, 25, 26, 27, 28, 29, 30, 31, 32, 33, 34, 35, 84, 85, 86, 87, 88, 89, 90, 91, 92, 93, 94, 95, 96, 97, 98, 99, 100, 101, 102, 103, 104, 105, 106, 107, 108, 109, 110, 111, 112, 113, 114, 115, 116, 117, 118, 119, 120, 121, 122, 123, 124, 125, 126, 127, 128, 129, 130, 131] (by decide +kernel) (by decide +kernel)
set_option maxRecDepth 20000 in
theorem gX9_frame_X9_eastInFrame : GoodIn wsX9_frame (va_wsS RX9 156 yX9_eastInFrame wsX9_eastInFrame) := goodIn_app (goodIn_of _ (by decide +kernel)) ggX9_frame_X9_eastInFrame
set_option maxRecDepth 20000 in
theorem ggX9_frame_X9_northInFrame : GoodIn wsX9_frame wsX9_northInFrame := goodIn_r _ [38, 15, 16, 17, 18, 19, 20, 21, 22, 23, 24, 25, 39, 40, 41, 42, 43, 44, 45, 46, 47, 48, 84, 85, 86, 87, 88, 89, 90, 91, 92, 93, 94, 95, 96, 97, 98, 99, 100, 101, 102, 103, 104, 105, 106, 107, 108, 109, 110, 111, 112, 113, 114, 115, 116, 117, 118, 119, 120, 121, 122, 123, 124, 125, 126, 127, 128, 129, 130, 131] (by decide +kernel) (by decide +kernel)
set_option maxRecDepth 20000 in
theorem gX9_frame_X9_northInFrame : GoodIn wsX9_frame (va_wsS RX9 160 yX9_northInFrame wsX9_northInFrame) := goodIn_app (goodIn_of _ (by decide +kernel)) ggX9_frame_X9_northInFrame
set_option maxRecDepth 20000 in
theorem ggX9_frame_X3_setSpeed : GoodIn wsX9_frame wsX3_setSpeed := goodIn_r _ [53, 21, 84, 85, 86, 87, 88, 89, 90, 91, 92, 93, 94, 95, 96, 97, 98, 99, 100, 101, 102, 103, 104, 105, 106, 107, 108, 109, 110, 111, 112, 113, 114, 115, 116, 117, 118, 119, 120, 121, 122, 123, 124, 125, 126, 127, 128, 129, 130, 131] (by decide +kernel) (by decide +kernel)
set_option maxRecDepth 20000 in
theorem gX9_frame_X3_setSpeed_u152X1 : GoodIn wsX9_frame (va_wsU RX9 152 RX1 "CreepBoard$Mark" ⟨"CreepBoard$Mark", "setSpeed", "(II)V"⟩ yX3_setSpeed wsX3_setSpeed) := goodIn_app (goodIn_of _ (by decide +kernel)) ggX9_frame_X3_setSpeed
set_option maxRecDepth 20000 in
theorem gX9_frame_X3_setSpeed : GoodIn wsX9_frame (wsV RX9 152 RX3 yX3_setSpeed wsX3_setSpeed) := goodIn_app (goodIn_of _ (by decide +kernel)) ggX9_frame_X3_setSpeed
set_option maxRecDepth 20000 in
theorem gX9_frame_X3_setSpeed_u152X4 : GoodIn wsX9_frame (va_wsU RX9 152 RX4 "CreepBoard$Mark" ⟨"CreepBoard$Mark", "setSpeed", "(II)V"⟩ yX3_setSpeed wsX3_setSpeed) := goodIn_app (goodIn_of _ (by decide +kernel)) ggX9_frame_X3_setSpeed
set_option maxRecDepth 20000 in
theorem gX9_frame_X3_setSpeed_u152X8 : GoodIn wsX9_frame (va_wsU RX9 152 RX8 "CreepBoard$Mark" ⟨"CreepBoard$Mark", "setSpeed", "(II)V"⟩ yX3_setSpeed wsX3_setSpeed) := goodIn_app (goodIn_of _ (by decide +kernel)) ggX9_frame_X3_setSpeed
set_option maxRecDepth 20000 in
theorem ggX9_frame_X9_forgetMotion : GoodIn wsX9_frame wsX9_forgetMotion := goodIn_r _ [61, 62, 63, 64, 65, 66, 67, 68, 69, 70, 71, 72, 73, 74, 75, 76, 77, 78, 79, 80, 81, 82, 83, 132, 133, 134, 135, 136, 137, 138, 139, 140, 141, 142, 143] (by decide +kernel) (by decide +kernel)
set_option maxRecDepth 20000 in
theorem gX9_frame_X9_forgetMotion : GoodIn wsX9_frame (wsV RX9 62 RX9 yX9_forgetMotion wsX9_forgetMotion) := goodIn_app (goodIn_of _ (by decide +kernel)) ggX9_frame_X9_forgetMotion
theorem dX9_frame_0 : decode cX9_frame 0 = .ok (.iload_n 1, 1) := by decide +kernel
theorem dX9_frame_1 : decode cX9_frame 1 = .ok (.sipush 1000, 3) := by decide +kernel
theorem dX9_frame_4 : decode cX9_frame 4 = .ok (.invokestatic 50, 3) := by decide +kernel
theorem dX9_frame_7 : decode cX9_frame 7 = .ok (.ifCond .eq 22, 3) := by decide +kernel
theorem dX9_frame_10 : decode cX9_frame 10 = .ok (.iload_n 2, 1) := by decide +kernel
theorem dX9_frame_11 : decode cX9_frame 11 = .ok (.sipush 1000, 3) := by decide +kernel
theorem dX9_frame_14 : decode cX9_frame 14 = .ok (.invokestatic 50, 3) := by decide +kernel
theorem dX9_frame_17 : decode cX9_frame 17 = .ok (.ifCond .eq 12, 3) := by decide +kernel
theorem dX9_frame_20 : decode cX9_frame 20 = .ok (.iload_n 3, 1) := by decide +kernel
theorem dX9_frame_21 : decode cX9_frame 21 = .ok (.bipush 9, 2) := by decide +kernel
theorem dX9_frame_23 : decode cX9_frame 23 = .ok (.invokestatic 50, 3) := by decide +kernel
theorem dX9_frame_26 : decode cX9_frame 26 = .ok (.ifCond .ne 5, 3) := by decide +kernel
theorem dX9_frame_29 : decode cX9_frame 29 = .ok (.iconst (-1), 1) := by decide +kernel
theorem dX9_frame_30 : decode cX9_frame 30 = .ok (.ireturn, 1) := by decide +kernel
theorem dX9_frame_31 : decode cX9_frame 31 = .ok (.iconst 0, 1) := by decide +kernel
theorem dX9_frame_32 : decode cX9_frame 32 = .ok (.istore 4, 2) := by decide +kernel
theorem dX9_frame_34 : decode cX9_frame 34 = .ok (.iload 4, 2) := by decide +kernel
theorem dX9_frame_36 : decode cX9_frame 36 = .ok (.aload_n 0, 1) := by decide +kernel
theorem dX9_frame_37 : decode cX9_frame 37 = .ok (.getfield 54, 3) := by decide +kernel
theorem dX9_frame_40 : decode cX9_frame 40 = .ok (.if_icmp .ge 55, 3) := by decide +kernel
theorem dX9_frame_43 : decode cX9_frame 43 = .ok (.aload_n 0, 1) := by decide +kernel
theorem dX9_frame_44 : decode cX9_frame 44 = .ok (.iload 4, 2) := by decide +kernel
theorem dX9_frame_46 : decode cX9_frame 46 = .ok (.invokevirtual 65, 3) := by decide +kernel
theorem dX9_frame_49 : decode cX9_frame 49 = .ok (.astore 5, 2) := by decide +kernel
theorem dX9_frame_51 : decode cX9_frame 51 = .ok (.aload 5, 2) := by decide +kernel
theorem dX9_frame_53 : decode cX9_frame 53 = .ok (.ifnull 36, 3) := by decide +kernel
theorem dX9_frame_56 : decode cX9_frame 56 = .ok (.aload 5, 2) := by decide +kernel
theorem dX9_frame_58 : decode cX9_frame 58 = .ok (.iload_n 1, 1) := by decide +kernel
theorem dX9_frame_59 : decode cX9_frame 59 = .ok (.iload_n 3, 1) := by decide +kernel
theorem dX9_frame_60 : decode cX9_frame 60 = .ok (.invokestatic 156, 3) := by decide +kernel
theorem dX9_frame_63 : decode cX9_frame 63 = .ok (.ldc 79, 2) := by decide +kernel
theorem dX9_frame_65 : decode cX9_frame 65 = .ok (.invokestatic 50, 3) := by decide +kernel
theorem dX9_frame_68 : decode cX9_frame 68 = .ok (.ifCond .eq 18, 3) := by decide +kernel
theorem dX9_frame_71 : decode cX9_frame 71 = .ok (.aload 5, 2) := by decide +kernel
theorem dX9_frame_73 : decode cX9_frame 73 = .ok (.iload_n 2, 1) := by decide +kernel
theorem dX9_frame_74 : decode cX9_frame 74 = .ok (.iload_n 3, 1) := by decide +kernel
theorem dX9_frame_75 : decode cX9_frame 75 = .ok (.invokestatic 160, 3) := by decide +kernel
theorem dX9_frame_78 : decode cX9_frame 78 = .ok (.ldc 79, 2) := by decide +kernel
theorem dX9_frame_80 : decode cX9_frame 80 = .ok (.invokestatic 50, 3) := by decide +kernel
theorem dX9_frame_83 : decode cX9_frame 83 = .ok (.ifCond .ne 6, 3) := by decide +kernel
theorem dX9_frame_86 : decode cX9_frame 86 = .ok (.bipush (-2), 2) := by decide +kernel
theorem dX9_frame_88 : decode cX9_frame 88 = .ok (.ireturn, 1) := by decide +kernel
theorem dX9_frame_89 : decode cX9_frame 89 = .ok (.iinc 4 1, 3) := by decide +kernel
theorem dX9_frame_92 : decode cX9_frame 92 = .ok (.goto (-58), 3) := by decide +kernel
theorem dX9_frame_95 : decode cX9_frame 95 = .ok (.iconst 0, 1) := by decide +kernel
theorem dX9_frame_96 : decode cX9_frame 96 = .ok (.istore 4, 2) := by decide +kernel
theorem dX9_frame_98 : decode cX9_frame 98 = .ok (.iload 4, 2) := by decide +kernel
theorem dX9_frame_100 : decode cX9_frame 100 = .ok (.aload_n 0, 1) := by decide +kernel
theorem dX9_frame_101 : decode cX9_frame 101 = .ok (.getfield 54, 3) := by decide +kernel
theorem dX9_frame_104 : decode cX9_frame 104 = .ok (.if_icmp .ge 41, 3) := by decide +kernel
theorem dX9_frame_107 : decode cX9_frame 107 = .ok (.aload_n 0, 1) := by decide +kernel
theorem dX9_frame_108 : decode cX9_frame 108 = .ok (.iload 4, 2) := by decide +kernel
theorem dX9_frame_110 : decode cX9_frame 110 = .ok (.invokevirtual 65, 3) := by decide +kernel
theorem dX9_frame_113 : decode cX9_frame 113 = .ok (.astore 5, 2) := by decide +kernel
theorem dX9_frame_115 : decode cX9_frame 115 = .ok (.aload 5, 2) := by decide +kernel
theorem dX9_frame_117 : decode cX9_frame 117 = .ok (.ifnull 22, 3) := by decide +kernel
theorem dX9_frame_120 : decode cX9_frame 120 = .ok (.aload 5, 2) := by decide +kernel
theorem dX9_frame_122 : decode cX9_frame 122 = .ok (.aload 5, 2) := by decide +kernel
theorem dX9_frame_124 : decode cX9_frame 124 = .ok (.iload_n 1, 1) := by decide +kernel
theorem dX9_frame_125 : decode cX9_frame 125 = .ok (.iload_n 3, 1) := by decide +kernel
theorem dX9_frame_126 : decode cX9_frame 126 = .ok (.invokestatic 156, 3) := by decide +kernel
theorem dX9_frame_129 : decode cX9_frame 129 = .ok (.aload 5, 2) := by decide +kernel
theorem dX9_frame_131 : decode cX9_frame 131 = .ok (.iload_n 2, 1) := by decide +kernel
theorem dX9_frame_132 : decode cX9_frame 132 = .ok (.iload_n 3, 1) := by decide +kernel
theorem dX9_frame_133 : decode cX9_frame 133 = .ok (.invokestatic 160, 3) := by decide +kernel
theorem dX9_frame_136 : decode cX9_frame 136 = .ok (.invokevirtual 152, 3) := by decide +kernel
theorem dX9_frame_139 : decode cX9_frame 139 = .ok (.iinc 4 1, 3) := by decide +kernel
theorem dX9_frame_142 : decode cX9_frame 142 = .ok (.goto (-44), 3) := by decide +kernel
theorem dX9_frame_145 : decode cX9_frame 145 = .ok (.aload_n 0, 1) := by decide +kernel
theorem dX9_frame_146 : decode cX9_frame 146 = .ok (.invokevirtual 62, 3) := by decide +kernel
theorem dX9_frame_149 : decode cX9_frame 149 = .ok (.iconst 1, 1) := by decide +kernel
theorem dX9_frame_150 : decode cX9_frame 150 = .ok (.ireturn, 1) := by decide +kernel
theorem dX9_strain_0 : decode cX9_strain 0 = .ok (.aload_n 0, 1) := by decide +kernel
theorem dX9_strain_1 : decode cX9_strain 1 = .ok (.iload_n 1, 1) := by decide +kernel
theorem dX9_strain_2 : decode cX9_strain 2 = .ok (.invokevirtual 65, 3) := by decide +kernel
theorem dX9_strain_5 : decode cX9_strain 5 = .ok (.astore 6, 2) := by decide +kernel
theorem dX9_strain_7 : decode cX9_strain 7 = .ok (.aload_n 0, 1) := by decide +kernel
theorem dX9_strain_8 : decode cX9_strain 8 = .ok (.iload_n 2, 1) := by decide +kernel
theorem dX9_strain_9 : decode cX9_strain 9 = .ok (.invokevirtual 65, 3) := by decide +kernel
theorem dX9_strain_12 : decode cX9_strain 12 = .ok (.astore 7, 2) := by decide +kernel
theorem dX9_strain_14 : decode cX9_strain 14 = .ok (.aload_n 0, 1) := by decide +kernel
theorem dX9_strain_15 : decode cX9_strain 15 = .ok (.iload_n 3, 1) := by decide +kernel
theorem dX9_strain_16 : decode cX9_strain 16 = .ok (.invokevirtual 65, 3) := by decide +kernel
theorem dX9_strain_19 : decode cX9_strain 19 = .ok (.astore 8, 2) := by decide +kernel
theorem dX9_strain_21 : decode cX9_strain 21 = .ok (.aload 6, 2) := by decide +kernel
theorem dX9_strain_23 : decode cX9_strain 23 = .ok (.ifnull 24, 3) := by decide +kernel
theorem dX9_strain_26 : decode cX9_strain 26 = .ok (.aload 7, 2) := by decide +kernel
theorem dX9_strain_28 : decode cX9_strain 28 = .ok (.ifnull 19, 3) := by decide +kernel
theorem dX9_strain_31 : decode cX9_strain 31 = .ok (.aload 8, 2) := by decide +kernel
theorem dX9_strain_33 : decode cX9_strain 33 = .ok (.ifnull 14, 3) := by decide +kernel
theorem dX9_strain_36 : decode cX9_strain 36 = .ok (.iload 4, 2) := by decide +kernel
theorem dX9_strain_38 : decode cX9_strain 38 = .ok (.ifCond .lt 9, 3) := by decide +kernel
theorem dX9_strain_41 : decode cX9_strain 41 = .ok (.iload 4, 2) := by decide +kernel
theorem dX9_strain_43 : decode cX9_strain 43 = .ok (.iconst 4, 1) := by decide +kernel
theorem dX9_strain_44 : decode cX9_strain 44 = .ok (.if_icmp .lt 13, 3) := by decide +kernel
theorem dX9_strain_47 : decode cX9_strain 47 = .ok (.new 97, 3) := by decide +kernel
theorem dX9_strain_50 : decode cX9_strain 50 = .ok (.dup, 1) := by decide +kernel
theorem dX9_strain_51 : decode cX9_strain 51 = .ok (.ldc 163, 2) := by decide +kernel
theorem dX9_strain_53 : decode cX9_strain 53 = .ok (.invokespecial 101, 3) := by decide +kernel
theorem dX9_strain_56 : decode cX9_strain 56 = .ok (.athrow, 1) := by decide +kernel
theorem dX9_strain_57 : decode cX9_strain 57 = .ok (.aload 6, 2) := by decide +kernel
theorem dX9_strain_59 : decode cX9_strain 59 = .ok (.aload 7, 2) := by decide +kernel
theorem dX9_strain_61 : decode cX9_strain 61 = .ok (.aload 8, 2) := by decide +kernel
theorem dX9_strain_63 : decode cX9_strain 63 = .ok (.invokestatic 165, 3) := by decide +kernel
theorem dX9_strain_66 : decode cX9_strain 66 = .ok (.lstore 9, 2) := by decide +kernel
theorem dX9_strain_68 : decode cX9_strain 68 = .ok (.lload 9, 2) := by decide +kernel
theorem dX9_strain_70 : decode cX9_strain 70 = .ok (.lconst 0, 1) := by decide +kernel
theorem dX9_strain_71 : decode cX9_strain 71 = .ok (.lcmp, 1) := by decide +kernel
theorem dX9_strain_72 : decode cX9_strain 72 = .ok (.ifCond .ne 13, 3) := by decide +kernel
theorem dX9_strain_75 : decode cX9_strain 75 = .ok (.new 107, 3) := by decide +kernel
theorem dX9_strain_78 : decode cX9_strain 78 = .ok (.dup, 1) := by decide +kernel
theorem dX9_strain_79 : decode cX9_strain 79 = .ok (.ldc 169, 2) := by decide +kernel
theorem dX9_strain_81 : decode cX9_strain 81 = .ok (.invokespecial 111, 3) := by decide +kernel
theorem dX9_strain_84 : decode cX9_strain 84 = .ok (.athrow, 1) := by decide +kernel
theorem dX9_strain_85 : decode cX9_strain 85 = .ok (.aload 6, 2) := by decide +kernel
theorem dX9_strain_87 : decode cX9_strain 87 = .ok (.aload 7, 2) := by decide +kernel
theorem dX9_strain_89 : decode cX9_strain 89 = .ok (.aload 8, 2) := by decide +kernel
theorem dX9_strain_91 : decode cX9_strain 91 = .ok (.iload 4, 2) := by decide +kernel
theorem dX9_strain_93 : decode cX9_strain 93 = .ok (.invokestatic 171, 3) := by decide +kernel
theorem dX9_strain_96 : decode cX9_strain 96 = .ok (.lload 9, 2) := by decide +kernel
theorem dX9_strain_98 : decode cX9_strain 98 = .ok (.iload 5, 2) := by decide +kernel
theorem dX9_strain_100 : decode cX9_strain 100 = .ok (.invokestatic 134, 3) := by decide +kernel
theorem dX9_strain_103 : decode cX9_strain 103 = .ok (.lreturn, 1) := by decide +kernel
set_option maxRecDepth 20000 in
theorem ggX9_block_X0_turnAsOne : GoodIn wsX9_block wsX0_turnAsOne := goodIn_r _ [6, 7, 8, 9, 10, 11, 12, 13, 14, 15, 16, 17, 18, 19, 20, 21, 22, 23, 24, 25, 26, 27, 28, 29, 30, 31, 32, 33, 34, 35, 36, 37, 46, 47, 48, 49, 50, 51, 52, 53, 54, 55, 56, 57, 58, 59, 60, 61, 62, 63, 64, 65, 66, 67, 68, 69, 70, 71, 72, 73, 74, 75, 76, 77, 78, 79, 80, 81, 82, 83, 84, 85, 86, 87, 88, 89, 90, 91, 92, 93] (by decide +kernel) (by decide +kernel)
set_option maxRecDepth 20000 in
theorem gX9_block_X0_turnAsOne : GoodIn wsX9_block (va_wsS RX9 175 yX0_turnAsOne wsX0_turnAsOne) := goodIn_app (goodIn_of _ (by decide +kernel)) ggX9_block_X0_turnAsOne
theorem dX9_block_0 : decode cX9_block 0 = .ok (.iload_n 1, 1) := by decide +kernel
theorem dX9_block_1 : decode cX9_block 1 = .ok (.ifCond .le 13, 3) := by decide +kernel
theorem dX9_block_4 : decode cX9_block 4 = .ok (.iload_n 1, 1) := by decide +kernel
theorem dX9_block_5 : decode cX9_block 5 = .ok (.iconst 1, 1) := by decide +kernel
theorem dX9_block_6 : decode cX9_block 6 = .ok (.aload_n 0, 1) := by decide +kernel
theorem dX9_block_7 : decode cX9_block 7 = .ok (.getfield 54, 3) := by decide +kernel
theorem dX9_block_10 : decode cX9_block 10 = .ok (.ishl, 1) := by decide +kernel
theorem dX9_block_11 : decode cX9_block 11 = .ok (.if_icmp .lt 5, 3) := by decide +kernel
theorem dX9_block_14 : decode cX9_block 14 = .ok (.iconst (-1), 1) := by decide +kernel
theorem dX9_block_15 : decode cX9_block 15 = .ok (.ireturn, 1) := by decide +kernel
theorem dX9_block_16 : decode cX9_block 16 = .ok (.aload_n 0, 1) := by decide +kernel
theorem dX9_block_17 : decode cX9_block 17 = .ok (.getfield 11, 3) := by decide +kernel
theorem dX9_block_20 : decode cX9_block 20 = .ok (.iload_n 1, 1) := by decide +kernel
theorem dX9_block_21 : decode cX9_block 21 = .ok (.invokestatic 175, 3) := by decide +kernel
theorem dX9_block_24 : decode cX9_block 24 = .ok (.ifCond .eq 7, 3) := by decide +kernel
theorem dX9_block_27 : decode cX9_block 27 = .ok (.iconst 1, 1) := by decide +kernel
theorem dX9_block_28 : decode cX9_block 28 = .ok (.goto 4, 3) := by decide +kernel
theorem dX9_block_31 : decode cX9_block 31 = .ok (.iconst 0, 1) := by decide +kernel
theorem dX9_block_32 : decode cX9_block 32 = .ok (.ireturn, 1) := by decide +kernel
set_option maxRecDepth 20000 in
theorem ggX9_blocks_X0_find : GoodIn wsX9_blocks wsX0_find := goodIn_r _ [8, 9, 10, 11, 12, 7, 13, 14, 15, 16, 17, 18, 19, 20, 21, 22, 23, 24, 25, 26, 27, 28, 29, 30, 31, 32, 33, 34, 35, 36, 37, 38, 39, 40, 41, 42, 43, 44, 45, 46, 47, 48, 49, 50, 51, 52, 53, 54, 55, 56, 57, 58, 59, 60, 61, 62, 63, 64, 65, 66, 67, 68, 69, 70, 71, 84, 85, 86, 87, 88, 89, 90, 91, 92, 93, 94, 95, 96, 97, 98, 99, 100, 101, 102, 103, 104, 105, 106, 107, 108, 109, 110, 111, 112, 113, 114, 115, 116, 117, 118, 119, 120, 121, 122, 123, 124, 125, 126, 127, 128, 129, 130, 131, 132, 133, 134, 135, 136, 137] (by decide +kernel) (by decide +kernel)
set_option maxRecDepth 20000 in
theorem gX9_blocks_X0_find : GoodIn wsX9_blocks (wsV RX9 179 RX0 yX0_find wsX0_find) := goodIn_app (goodIn_of _ (by decide +kernel)) ggX9_blocks_X0_find
set_option maxRecDepth 20000 in
theorem ggX9_blocks_X0_blockCount : GoodIn wsX9_blocks wsX0_blockCount := goodIn_r _ [75, 66, 84, 85, 86, 87, 88, 89] (by decide +kernel) (by decide +kernel)
set_option maxRecDepth 20000 in
theorem gX9_blocks_X0_blockCount : GoodIn wsX9_blocks (wsV RX9 183 RX0 yX0_blockCount wsX0_blockCount) := goodIn_app (goodIn_of _ (by decide +kernel)) ggX9_blocks_X0_blockCount
theorem dX9_blocks_0 : decode cX9_blocks 0 = .ok (.aload_n 0, 1) := by decide +kernel
theorem dX9_blocks_1 : decode cX9_blocks 1 = .ok (.getfield 54, 3) := by decide +kernel
theorem dX9_blocks_4 : decode cX9_blocks 4 = .ok (.ifCond .ne 6, 3) := by decide +kernel
theorem dX9_blocks_7 : decode cX9_blocks 7 = .ok (.bipush (-3), 2) := by decide +kernel
theorem dX9_blocks_9 : decode cX9_blocks 9 = .ok (.ireturn, 1) := by decide +kernel
theorem dX9_blocks_10 : decode cX9_blocks 10 = .ok (.aload_n 0, 1) := by decide +kernel
theorem dX9_blocks_11 : decode cX9_blocks 11 = .ok (.getfield 25, 3) := by decide +kernel
theorem dX9_blocks_14 : decode cX9_blocks 14 = .ok (.aload_n 0, 1) := by decide +kernel
theorem dX9_blocks_15 : decode cX9_blocks 15 = .ok (.getfield 11, 3) := by decide +kernel
theorem dX9_blocks_18 : decode cX9_blocks 18 = .ok (.aload_n 0, 1) := by decide +kernel
theorem dX9_blocks_19 : decode cX9_blocks 19 = .ok (.getfield 54, 3) := by decide +kernel
theorem dX9_blocks_22 : decode cX9_blocks 22 = .ok (.invokevirtual 179, 3) := by decide +kernel
theorem dX9_blocks_25 : decode cX9_blocks 25 = .ok (.aload_n 0, 1) := by decide +kernel
theorem dX9_blocks_26 : decode cX9_blocks 26 = .ok (.getfield 25, 3) := by decide +kernel
theorem dX9_blocks_29 : decode cX9_blocks 29 = .ok (.invokevirtual 183, 3) := by decide +kernel
theorem dX9_blocks_32 : decode cX9_blocks 32 = .ok (.ireturn, 1) := by decide +kernel
set_option maxRecDepth 20000 in
theorem ggX9_of_X9_markAt : GoodIn wsX9_of wsX9_markAt := goodIn_r _ [8, 3, 2, 81, 82, 83, 84, 85, 86, 87, 88] (by decide +kernel) (by decide +kernel)
set_option maxRecDepth 20000 in
theorem gX9_of_X9_markAt : GoodIn wsX9_of (wsV RX9 65 RX9 yX9_markAt wsX9_markAt) := goodIn_app (goodIn_of _ (by decide +kernel)) ggX9_of_X9_markAt
set_option maxRecDepth 20000 in
theorem ggX9_of_X0_find : GoodIn wsX9_of wsX0_find := goodIn_r _ [13, 14, 15, 16, 17, 12, 18, 19, 20, 21, 22, 23, 24, 25, 26, 27, 28, 29, 30, 31, 32, 33, 34, 35, 36, 37, 38, 39, 40, 41, 42, 43, 44, 45, 46, 47, 48, 49, 50, 51, 52, 53, 54, 55, 56, 57, 58, 59, 60, 61, 62, 63, 64, 65, 66, 67, 68, 69, 70, 71, 72, 73, 74, 75, 76, 89, 90, 91, 92, 93, 94, 95, 96, 97, 98, 99, 100, 101, 102, 103, 104, 105, 106, 107, 108, 109, 110, 111, 112, 113, 114, 115, 116, 117, 118, 119, 120, 121, 122, 123, 124, 125, 126, 127, 128, 129, 130, 131, 132, 133, 134, 135, 136, 137, 138, 139, 140, 141, 142] (by decide +kernel) (by decide +kernel)
set_option maxRecDepth 20000 in
theorem gX9_of_X0_find : GoodIn wsX9_of (wsV RX9 179 RX0 yX0_find wsX0_find) := goodIn_app (goodIn_of _ (by decide +kernel)) ggX9_of_X0_find
set_option maxRecDepth 20000 in
theorem ggX9_of_X0_blockWith : GoodIn wsX9_of wsX0_blockWith := goodIn_r _ [80, 76, 89, 90, 91, 92, 93, 94] (by decide +kernel) (by decide +kernel)
set_option maxRecDepth 20000 in
theorem gX9_of_X0_blockWith : GoodIn wsX9_of (wsV RX9 186 RX0 yX0_blockWith wsX0_blockWith) := goodIn_app (goodIn_of _ (by decide +kernel)) ggX9_of_X0_blockWith
theorem dX9_of_0 : decode cX9_of 0 = .ok (.aload_n 0, 1) := by decide +kernel
theorem dX9_of_1 : decode cX9_of 1 = .ok (.iload_n 1, 1) := by decide +kernel
theorem dX9_of_2 : decode cX9_of 2 = .ok (.invokevirtual 65, 3) := by decide +kernel
theorem dX9_of_5 : decode cX9_of 5 = .ok (.ifnonnull 5, 3) := by decide +kernel
theorem dX9_of_8 : decode cX9_of 8 = .ok (.iconst (-1), 1) := by decide +kernel
theorem dX9_of_9 : decode cX9_of 9 = .ok (.ireturn, 1) := by decide +kernel
theorem dX9_of_10 : decode cX9_of 10 = .ok (.aload_n 0, 1) := by decide +kernel
theorem dX9_of_11 : decode cX9_of 11 = .ok (.getfield 25, 3) := by decide +kernel
theorem dX9_of_14 : decode cX9_of 14 = .ok (.aload_n 0, 1) := by decide +kernel
theorem dX9_of_15 : decode cX9_of 15 = .ok (.getfield 11, 3) := by decide +kernel
theorem dX9_of_18 : decode cX9_of 18 = .ok (.aload_n 0, 1) := by decide +kernel
theorem dX9_of_19 : decode cX9_of 19 = .ok (.getfield 54, 3) := by decide +kernel
theorem dX9_of_22 : decode cX9_of 22 = .ok (.invokevirtual 179, 3) := by decide +kernel
theorem dX9_of_25 : decode cX9_of 25 = .ok (.aload_n 0, 1) := by decide +kernel
theorem dX9_of_26 : decode cX9_of 26 = .ok (.getfield 25, 3) := by decide +kernel
theorem dX9_of_29 : decode cX9_of 29 = .ok (.iload_n 1, 1) := by decide +kernel
theorem dX9_of_30 : decode cX9_of 30 = .ok (.invokevirtual 186, 3) := by decide +kernel
theorem dX9_of_33 : decode cX9_of 33 = .ok (.ireturn, 1) := by decide +kernel
set_option maxRecDepth 20000 in
theorem ggX9_green_X9_markAt : GoodIn wsX9_green wsX9_markAt := goodIn_r _ [6, 7, 8, 41, 42, 43, 44, 45, 46, 47, 48] (by decide +kernel) (by decide +kernel)
set_option maxRecDepth 20000 in
theorem gX9_green_X9_markAt : GoodIn wsX9_green (wsV RX9 65 RX9 yX9_markAt wsX9_markAt) := goodIn_app (goodIn_of _ (by decide +kernel)) ggX9_green_X9_markAt
set_option maxRecDepth 20000 in
theorem ggX9_green_X9_isCut : GoodIn wsX9_green wsX9_isCut := goodIn_r _ [11] (by decide +kernel) (by decide +kernel)
set_option maxRecDepth 20000 in
theorem gX9_green_X9_isCut : GoodIn wsX9_green (va_wsS RX9 189 yX9_isCut wsX9_isCut) := goodIn_app (goodIn_of _ (by decide +kernel)) ggX9_green_X9_isCut
set_option maxRecDepth 20000 in
theorem ggX9_green_X9_within : GoodIn wsX9_green wsX9_within := goodIn_r _ [14] (by decide +kernel) (by decide +kernel)
set_option maxRecDepth 20000 in
theorem gX9_green_X9_within : GoodIn wsX9_green (va_wsS RX9 50 yX9_within wsX9_within) := goodIn_app (goodIn_of _ (by decide +kernel)) ggX9_green_X9_within
set_option maxRecDepth 20000 in
theorem ggX9_green_X3_greenOf : GoodIn wsX9_green wsX3_greenOf := goodIn_r _ [20, 21, 49, 50, 51, 52, 53, 54, 55, 56, 57, 58, 59, 60, 61, 62, 63, 64, 65, 66, 67, 68, 69, 70, 71, 72, 73, 74, 75, 76, 77, 78, 79, 80, 81, 82, 83, 84, 85, 86, 87, 88, 89, 90, 91, 92, 93, 94, 95, 96] (by decide +kernel) (by decide +kernel)
set_option maxRecDepth 20000 in
theorem gX9_green_X3_greenOf_u192X1 : GoodIn wsX9_green (va_wsU RX9 192 RX1 "CreepBoard$Mark" ⟨"CreepBoard$Mark", "greenOf", "(I)I"⟩ yX3_greenOf wsX3_greenOf) := goodIn_app (goodIn_of _ (by decide +kernel)) ggX9_green_X3_greenOf
set_option maxRecDepth 20000 in
theorem gX9_green_X3_greenOf : GoodIn wsX9_green (wsV RX9 192 RX3 yX3_greenOf wsX3_greenOf) := goodIn_app (goodIn_of _ (by decide +kernel)) ggX9_green_X3_greenOf
set_option maxRecDepth 20000 in
theorem gX9_green_X3_greenOf_u192X4 : GoodIn wsX9_green (va_wsU RX9 192 RX4 "CreepBoard$Mark" ⟨"CreepBoard$Mark", "greenOf", "(I)I"⟩ yX3_greenOf wsX3_greenOf) := goodIn_app (goodIn_of _ (by decide +kernel)) ggX9_green_X3_greenOf
set_option maxRecDepth 20000 in
theorem gX9_green_X3_greenOf_u192X8 : GoodIn wsX9_green (va_wsU RX9 192 RX8 "CreepBoard$Mark" ⟨"CreepBoard$Mark", "greenOf", "(I)I"⟩ yX3_greenOf wsX3_greenOf) := goodIn_app (goodIn_of _ (by decide +kernel)) ggX9_green_X3_greenOf
set_option maxRecDepth 20000 in
theorem ggX9_green_X3_setGreen : GoodIn wsX9_green wsX3_setGreen := goodIn_r _ [30, 21, 49, 50, 51, 52, 53, 54, 55, 56, 57, 58, 59, 60, 61, 62, 63, 64, 65, 66, 67, 68, 69, 70, 71, 72, 73, 74, 75, 76, 77, 78, 79, 80, 81, 82, 83, 84, 85, 86, 87, 88, 89, 90, 91, 92, 93, 94, 95, 96] (by decide +kernel) (by decide +kernel)
set_option maxRecDepth 20000 in
theorem gX9_green_X3_setGreen_u195X1 : GoodIn wsX9_green (va_wsU RX9 195 RX1 "CreepBoard$Mark" ⟨"CreepBoard$Mark", "setGreen", "(II)V"⟩ yX3_setGreen wsX3_setGreen) := goodIn_app (goodIn_of _ (by decide +kernel)) ggX9_green_X3_setGreen
set_option maxRecDepth 20000 in
theorem gX9_green_X3_setGreen : GoodIn wsX9_green (wsV RX9 195 RX3 yX3_setGreen wsX3_setGreen) := goodIn_app (goodIn_of _ (by decide +kernel)) ggX9_green_X3_setGreen
set_option maxRecDepth 20000 in
theorem gX9_green_X3_setGreen_u195X4 : GoodIn wsX9_green (va_wsU RX9 195 RX4 "CreepBoard$Mark" ⟨"CreepBoard$Mark", "setGreen", "(II)V"⟩ yX3_setGreen wsX3_setGreen) := goodIn_app (goodIn_of _ (by decide +kernel)) ggX9_green_X3_setGreen
set_option maxRecDepth 20000 in
theorem gX9_green_X3_setGreen_u195X8 : GoodIn wsX9_green (va_wsU RX9 195 RX8 "CreepBoard$Mark" ⟨"CreepBoard$Mark", "setGreen", "(II)V"⟩ yX3_setGreen wsX3_setGreen) := goodIn_app (goodIn_of _ (by decide +kernel)) ggX9_green_X3_setGreen
set_option maxRecDepth 20000 in
theorem ggX9_green_X7_forget : GoodIn wsX9_green wsX7_forget := goodIn_r _ [39, 40, 97, 98, 99, 100, 101, 102] (by decide +kernel) (by decide +kernel)
set_option maxRecDepth 20000 in
theorem gX9_green_X7_forget : GoodIn wsX9_green (wsV RX9 198 RX7 yX7_forget wsX7_forget) := goodIn_app (goodIn_of _ (by decide +kernel)) ggX9_green_X7_forget
theorem dX9_green_0 : decode cX9_green 0 = .ok (.aload_n 0, 1) := by decide +kernel
theorem dX9_green_1 : decode cX9_green 1 = .ok (.iload_n 1, 1) := by decide +kernel
theorem dX9_green_2 : decode cX9_green 2 = .ok (.invokevirtual 65, 3) := by decide +kernel
theorem dX9_green_5 : decode cX9_green 5 = .ok (.astore 4, 2) := by decide +kernel
theorem dX9_green_7 : decode cX9_green 7 = .ok (.aload 4, 2) := by decide +kernel
theorem dX9_green_9 : decode cX9_green 9 = .ok (.ifnull 19, 3) := by decide +kernel
theorem dX9_green_12 : decode cX9_green 12 = .ok (.iload_n 2, 1) := by decide +kernel
theorem dX9_green_13 : decode cX9_green 13 = .ok (.invokestatic 189, 3) := by decide +kernel
theorem dX9_green_16 : decode cX9_green 16 = .ok (.ifCond .eq 12, 3) := by decide +kernel
theorem dX9_green_19 : decode cX9_green 19 = .ok (.iload_n 3, 1) := by decide +kernel
theorem dX9_green_20 : decode cX9_green 20 = .ok (.bipush 20, 2) := by decide +kernel
theorem dX9_green_22 : decode cX9_green 22 = .ok (.invokestatic 50, 3) := by decide +kernel
theorem dX9_green_25 : decode cX9_green 25 = .ok (.ifCond .ne 7, 3) := by decide +kernel
theorem dX9_green_28 : decode cX9_green 28 = .ok (.sipush (-1001), 3) := by decide +kernel
theorem dX9_green_31 : decode cX9_green 31 = .ok (.ireturn, 1) := by decide +kernel
theorem dX9_green_32 : decode cX9_green 32 = .ok (.aload 4, 2) := by decide +kernel
theorem dX9_green_34 : decode cX9_green 34 = .ok (.iload_n 2, 1) := by decide +kernel
theorem dX9_green_35 : decode cX9_green 35 = .ok (.invokevirtual 192, 3) := by decide +kernel
theorem dX9_green_38 : decode cX9_green 38 = .ok (.istore 5, 2) := by decide +kernel
theorem dX9_green_40 : decode cX9_green 40 = .ok (.aload 4, 2) := by decide +kernel
theorem dX9_green_42 : decode cX9_green 42 = .ok (.iload_n 2, 1) := by decide +kernel
theorem dX9_green_43 : decode cX9_green 43 = .ok (.iload_n 3, 1) := by decide +kernel
theorem dX9_green_44 : decode cX9_green 44 = .ok (.invokevirtual 195, 3) := by decide +kernel
theorem dX9_green_47 : decode cX9_green 47 = .ok (.aload_n 0, 1) := by decide +kernel
theorem dX9_green_48 : decode cX9_green 48 = .ok (.getfield 32, 3) := by decide +kernel
theorem dX9_green_51 : decode cX9_green 51 = .ok (.invokevirtual 198, 3) := by decide +kernel
theorem dX9_green_54 : decode cX9_green 54 = .ok (.iload 5, 2) := by decide +kernel
theorem dX9_green_56 : decode cX9_green 56 = .ok (.ireturn, 1) := by decide +kernel
set_option maxRecDepth 20000 in
theorem ggX9_tolerance_X7_forget : GoodIn wsX9_tolerance wsX7_forget := goodIn_r _ [7, 8, 17, 18, 19, 20, 21, 22] (by decide +kernel) (by decide +kernel)
set_option maxRecDepth 20000 in
theorem gX9_tolerance_X7_forget : GoodIn wsX9_tolerance (wsV RX9 198 RX7 yX7_forget wsX7_forget) := goodIn_app (goodIn_of _ (by decide +kernel)) ggX9_tolerance_X7_forget
theorem dX9_tolerance_0 : decode cX9_tolerance 0 = .ok (.iload_n 1, 1) := by decide +kernel
theorem dX9_tolerance_1 : decode cX9_tolerance 1 = .ok (.ifCond .lt 9, 3) := by decide +kernel
theorem dX9_tolerance_4 : decode cX9_tolerance 4 = .ok (.iload_n 1, 1) := by decide +kernel
theorem dX9_tolerance_5 : decode cX9_tolerance 5 = .ok (.bipush 100, 2) := by decide +kernel
theorem dX9_tolerance_7 : decode cX9_tolerance 7 = .ok (.if_icmp .le 5, 3) := by decide +kernel
theorem dX9_tolerance_10 : decode cX9_tolerance 10 = .ok (.iconst (-1), 1) := by decide +kernel
theorem dX9_tolerance_11 : decode cX9_tolerance 11 = .ok (.ireturn, 1) := by decide +kernel
theorem dX9_tolerance_12 : decode cX9_tolerance 12 = .ok (.aload_n 0, 1) := by decide +kernel
theorem dX9_tolerance_13 : decode cX9_tolerance 13 = .ok (.getfield 201, 3) := by decide +kernel
theorem dX9_tolerance_16 : decode cX9_tolerance 16 = .ok (.istore_n 2, 1) := by decide +kernel
theorem dX9_tolerance_17 : decode cX9_tolerance 17 = .ok (.aload_n 0, 1) := by decide +kernel
theorem dX9_tolerance_18 : decode cX9_tolerance 18 = .ok (.iload_n 1, 1) := by decide +kernel
theorem dX9_tolerance_19 : decode cX9_tolerance 19 = .ok (.putfield 201, 3) := by decide +kernel
theorem dX9_tolerance_22 : decode cX9_tolerance 22 = .ok (.aload_n 0, 1) := by decide +kernel
theorem dX9_tolerance_23 : decode cX9_tolerance 23 = .ok (.getfield 32, 3) := by decide +kernel
theorem dX9_tolerance_26 : decode cX9_tolerance 26 = .ok (.invokevirtual 198, 3) := by decide +kernel
theorem dX9_tolerance_29 : decode cX9_tolerance 29 = .ok (.iload_n 2, 1) := by decide +kernel
theorem dX9_tolerance_30 : decode cX9_tolerance 30 = .ok (.ireturn, 1) := by decide +kernel
set_option maxRecDepth 20000 in
theorem ggX9_fits_X7_find : GoodIn wsX9_fits wsX7_find := goodIn_r _ [9, 10, 11, 12, 13, 14, 15, 16, 17, 18, 19, 20, 21, 22, 23, 24, 25, 26, 27, 28, 29, 30, 31, 32, 33, 34, 35, 36, 37, 38, 39, 8, 40, 41, 42, 43, 44, 45, 46, 47, 48, 49, 50, 51, 52, 53, 54, 55, 56, 57, 58, 59, 60, 61, 62, 75, 76, 77, 78, 79, 80, 81, 82, 83, 84, 85, 86, 87, 88, 89, 90, 91, 92, 93, 94, 95, 96, 97, 98, 99, 100, 101, 102, 103, 104, 105, 106, 107, 108, 109, 110, 111, 112, 113, 114, 115, 116, 117, 118, 119, 120, 121, 122, 123, 124, 125, 126, 127, 128] (by decide +kernel) (by decide +kernel)
set_option maxRecDepth 20000 in
theorem gX9_fits_X7_find : GoodIn wsX9_fits (wsV RX9 204 RX7 yX7_find wsX7_find) := goodIn_app (goodIn_of _ (by decide +kernel)) ggX9_fits_X7_find
set_option maxRecDepth 20000 in
theorem ggX9_fits_X7_fitCount : GoodIn wsX9_fits wsX7_fitCount := goodIn_r _ [66, 11, 75, 76, 77, 78, 79, 80] (by decide +kernel) (by decide +kernel)
set_option maxRecDepth 20000 in
theorem gX9_fits_X7_fitCount : GoodIn wsX9_fits (wsV RX9 207 RX7 yX7_fitCount wsX7_fitCount) := goodIn_app (goodIn_of _ (by decide +kernel)) ggX9_fits_X7_fitCount
theorem dX9_fits_0 : decode cX9_fits 0 = .ok (.aload_n 0, 1) := by decide +kernel
theorem dX9_fits_1 : decode cX9_fits 1 = .ok (.getfield 32, 3) := by decide +kernel
theorem dX9_fits_4 : decode cX9_fits 4 = .ok (.aload_n 0, 1) := by decide +kernel
theorem dX9_fits_5 : decode cX9_fits 5 = .ok (.getfield 11, 3) := by decide +kernel
theorem dX9_fits_8 : decode cX9_fits 8 = .ok (.aload_n 0, 1) := by decide +kernel
theorem dX9_fits_9 : decode cX9_fits 9 = .ok (.getfield 54, 3) := by decide +kernel
theorem dX9_fits_12 : decode cX9_fits 12 = .ok (.aload_n 0, 1) := by decide +kernel
theorem dX9_fits_13 : decode cX9_fits 13 = .ok (.getfield 201, 3) := by decide +kernel
theorem dX9_fits_16 : decode cX9_fits 16 = .ok (.invokevirtual 204, 3) := by decide +kernel
theorem dX9_fits_19 : decode cX9_fits 19 = .ok (.aload_n 0, 1) := by decide +kernel
theorem dX9_fits_20 : decode cX9_fits 20 = .ok (.getfield 32, 3) := by decide +kernel
theorem dX9_fits_23 : decode cX9_fits 23 = .ok (.invokevirtual 207, 3) := by decide +kernel
theorem dX9_fits_26 : decode cX9_fits 26 = .ok (.ireturn, 1) := by decide +kernel
set_option maxRecDepth 20000 in
theorem ggX9_slip_X9_isCut : GoodIn wsX9_slip wsX9_isCut := goodIn_r _ [8] (by decide +kernel) (by decide +kernel)
set_option maxRecDepth 20000 in
theorem gX9_slip_X9_isCut : GoodIn wsX9_slip (va_wsS RX9 189 yX9_isCut wsX9_isCut) := goodIn_app (goodIn_of _ (by decide +kernel)) ggX9_slip_X9_isCut
set_option maxRecDepth 20000 in
theorem ggX9_slip_X7_find : GoodIn wsX9_slip wsX7_find := goodIn_r _ [13, 14, 15, 16, 17, 18, 19, 20, 21, 22, 23, 24, 25, 26, 27, 28, 29, 30, 31, 32, 33, 34, 35, 36, 37, 38, 39, 40, 41, 42, 43, 12, 44, 45, 46, 47, 48, 49, 50, 51, 52, 53, 54, 55, 56, 57, 58, 59, 60, 61, 62, 63, 64, 65, 66, 87, 88, 89, 90, 91, 92, 93, 94, 95, 96, 97, 98, 99, 100, 101, 102, 103, 104, 105, 106, 107, 108, 109, 110, 111, 112, 113, 114, 115, 116, 117, 118, 119, 120, 121, 122, 123, 124, 125, 126, 127, 128, 129, 130, 131, 132, 133, 134, 135, 136, 137, 138, 139, 140] (by decide +kernel) (by decide +kernel)
set_option maxRecDepth 20000 in
theorem gX9_slip_X7_find : GoodIn wsX9_slip (wsV RX9 204 RX7 yX7_find wsX7_find) := goodIn_app (goodIn_of _ (by decide +kernel)) ggX9_slip_X7_find
set_option maxRecDepth 20000 in
theorem ggX9_slip_X7_fitCount : GoodIn wsX9_slip wsX7_fitCount := goodIn_r _ [70, 15, 87, 88, 89, 90, 91, 92] (by decide +kernel) (by decide +kernel)
set_option maxRecDepth 20000 in
theorem gX9_slip_X7_fitCount : GoodIn wsX9_slip (wsV RX9 207 RX7 yX7_fitCount wsX7_fitCount) := goodIn_app (goodIn_of _ (by decide +kernel)) ggX9_slip_X7_fitCount
set_option maxRecDepth 20000 in
theorem ggX9_slip_X7_greatestOf : GoodIn wsX9_slip wsX7_greatestOf := goodIn_r _ [74, 17, 87, 88, 89, 90, 91, 92] (by decide +kernel) (by decide +kernel)
set_option maxRecDepth 20000 in
theorem gX9_slip_X7_greatestOf : GoodIn wsX9_slip (wsV RX9 210 RX7 yX7_greatestOf wsX7_greatestOf) := goodIn_app (goodIn_of _ (by decide +kernel)) ggX9_slip_X7_greatestOf
set_option maxRecDepth 20000 in
theorem ggX9_slip_X7_leastOf : GoodIn wsX9_slip wsX7_leastOf := goodIn_r _ [78, 16, 87, 88, 89, 90, 91, 92] (by decide +kernel) (by decide +kernel)
set_option maxRecDepth 20000 in
theorem gX9_slip_X7_leastOf : GoodIn wsX9_slip (wsV RX9 213 RX7 yX7_leastOf wsX7_leastOf) := goodIn_app (goodIn_of _ (by decide +kernel)) ggX9_slip_X7_leastOf
theorem dX9_slip_0 : decode cX9_slip 0 = .ok (.iload_n 1, 1) := by decide +kernel
theorem dX9_slip_1 : decode cX9_slip 1 = .ok (.invokestatic 189, 3) := by decide +kernel
theorem dX9_slip_4 : decode cX9_slip 4 = .ok (.ifCond .ne 5, 3) := by decide +kernel
theorem dX9_slip_7 : decode cX9_slip 7 = .ok (.iconst (-1), 1) := by decide +kernel
theorem dX9_slip_8 : decode cX9_slip 8 = .ok (.ireturn, 1) := by decide +kernel
theorem dX9_slip_9 : decode cX9_slip 9 = .ok (.aload_n 0, 1) := by decide +kernel
theorem dX9_slip_10 : decode cX9_slip 10 = .ok (.getfield 32, 3) := by decide +kernel
theorem dX9_slip_13 : decode cX9_slip 13 = .ok (.aload_n 0, 1) := by decide +kernel
theorem dX9_slip_14 : decode cX9_slip 14 = .ok (.getfield 11, 3) := by decide +kernel
theorem dX9_slip_17 : decode cX9_slip 17 = .ok (.aload_n 0, 1) := by decide +kernel
theorem dX9_slip_18 : decode cX9_slip 18 = .ok (.getfield 54, 3) := by decide +kernel
theorem dX9_slip_21 : decode cX9_slip 21 = .ok (.aload_n 0, 1) := by decide +kernel
theorem dX9_slip_22 : decode cX9_slip 22 = .ok (.getfield 201, 3) := by decide +kernel
theorem dX9_slip_25 : decode cX9_slip 25 = .ok (.invokevirtual 204, 3) := by decide +kernel
theorem dX9_slip_28 : decode cX9_slip 28 = .ok (.aload_n 0, 1) := by decide +kernel
theorem dX9_slip_29 : decode cX9_slip 29 = .ok (.getfield 32, 3) := by decide +kernel
theorem dX9_slip_32 : decode cX9_slip 32 = .ok (.invokevirtual 207, 3) := by decide +kernel
theorem dX9_slip_35 : decode cX9_slip 35 = .ok (.ifCond .ne 6, 3) := by decide +kernel
theorem dX9_slip_38 : decode cX9_slip 38 = .ok (.bipush (-4), 2) := by decide +kernel
theorem dX9_slip_40 : decode cX9_slip 40 = .ok (.ireturn, 1) := by decide +kernel
theorem dX9_slip_41 : decode cX9_slip 41 = .ok (.iload_n 2, 1) := by decide +kernel
theorem dX9_slip_42 : decode cX9_slip 42 = .ok (.ifCond .eq 14, 3) := by decide +kernel
theorem dX9_slip_45 : decode cX9_slip 45 = .ok (.aload_n 0, 1) := by decide +kernel
theorem dX9_slip_46 : decode cX9_slip 46 = .ok (.getfield 32, 3) := by decide +kernel
theorem dX9_slip_49 : decode cX9_slip 49 = .ok (.iload_n 1, 1) := by decide +kernel
theorem dX9_slip_50 : decode cX9_slip 50 = .ok (.invokevirtual 210, 3) := by decide +kernel
theorem dX9_slip_53 : decode cX9_slip 53 = .ok (.goto 11, 3) := by decide +kernel
theorem dX9_slip_56 : decode cX9_slip 56 = .ok (.aload_n 0, 1) := by decide +kernel
theorem dX9_slip_57 : decode cX9_slip 57 = .ok (.getfield 32, 3) := by decide +kernel
theorem dX9_slip_60 : decode cX9_slip 60 = .ok (.iload_n 1, 1) := by decide +kernel
theorem dX9_slip_61 : decode cX9_slip 61 = .ok (.invokevirtual 213, 3) := by decide +kernel
theorem dX9_slip_64 : decode cX9_slip 64 = .ok (.ireturn, 1) := by decide +kernel
set_option maxRecDepth 20000 in
theorem ggX9_locked_X7_find : GoodIn wsX9_locked wsX7_find := goodIn_r _ [9, 10, 11, 12, 13, 14, 15, 16, 17, 18, 19, 20, 21, 22, 23, 24, 25, 26, 27, 28, 29, 30, 31, 32, 33, 34, 35, 36, 37, 38, 39, 8, 40, 41, 42, 43, 44, 45, 46, 47, 48, 49, 50, 51, 52, 53, 54, 55, 56, 57, 58, 59, 60, 61, 62, 79, 80, 81, 82, 83, 84, 85, 86, 87, 88, 89, 90, 91, 92, 93, 94, 95, 96, 97, 98, 99, 100, 101, 102, 103, 104, 105, 106, 107, 108, 109, 110, 111, 112, 113, 114, 115, 116, 117, 118, 119, 120, 121, 122, 123, 124, 125, 126, 127, 128, 129, 130, 131, 132] (by decide +kernel) (by decide +kernel)
set_option maxRecDepth 20000 in
theorem gX9_locked_X7_find : GoodIn wsX9_locked (wsV RX9 204 RX7 yX7_find wsX7_find) := goodIn_app (goodIn_of _ (by decide +kernel)) ggX9_locked_X7_find
set_option maxRecDepth 20000 in
theorem ggX9_locked_X7_fitCount : GoodIn wsX9_locked wsX7_fitCount := goodIn_r _ [66, 11, 79, 80, 81, 82, 83, 84] (by decide +kernel) (by decide +kernel)
set_option maxRecDepth 20000 in
theorem gX9_locked_X7_fitCount : GoodIn wsX9_locked (wsV RX9 207 RX7 yX7_fitCount wsX7_fitCount) := goodIn_app (goodIn_of _ (by decide +kernel)) ggX9_locked_X7_fitCount
set_option maxRecDepth 20000 in
theorem ggX9_locked_X7_greatestOf : GoodIn wsX9_locked wsX7_greatestOf := goodIn_r _ [70, 13, 79, 80, 81, 82, 83, 84] (by decide +kernel) (by decide +kernel)
set_option maxRecDepth 20000 in
theorem gX9_locked_X7_greatestOf : GoodIn wsX9_locked (wsV RX9 210 RX7 yX7_greatestOf wsX7_greatestOf) := goodIn_app (goodIn_of _ (by decide +kernel)) ggX9_locked_X7_greatestOf
theorem dX9_locked_0 : decode cX9_locked 0 = .ok (.aload_n 0, 1) := by decide +kernel
theorem dX9_locked_1 : decode cX9_locked 1 = .ok (.getfield 32, 3) := by decide +kernel
theorem dX9_locked_4 : decode cX9_locked 4 = .ok (.aload_n 0, 1) := by decide +kernel
theorem dX9_locked_5 : decode cX9_locked 5 = .ok (.getfield 11, 3) := by decide +kernel
theorem dX9_locked_8 : decode cX9_locked 8 = .ok (.aload_n 0, 1) := by decide +kernel
theorem dX9_locked_9 : decode cX9_locked 9 = .ok (.getfield 54, 3) := by decide +kernel
theorem dX9_locked_12 : decode cX9_locked 12 = .ok (.aload_n 0, 1) := by decide +kernel
theorem dX9_locked_13 : decode cX9_locked 13 = .ok (.getfield 201, 3) := by decide +kernel
theorem dX9_locked_16 : decode cX9_locked 16 = .ok (.invokevirtual 204, 3) := by decide +kernel
theorem dX9_locked_19 : decode cX9_locked 19 = .ok (.aload_n 0, 1) := by decide +kernel
theorem dX9_locked_20 : decode cX9_locked 20 = .ok (.getfield 32, 3) := by decide +kernel
theorem dX9_locked_23 : decode cX9_locked 23 = .ok (.invokevirtual 207, 3) := by decide +kernel
theorem dX9_locked_26 : decode cX9_locked 26 = .ok (.ifCond .ne 6, 3) := by decide +kernel
theorem dX9_locked_29 : decode cX9_locked 29 = .ok (.bipush (-4), 2) := by decide +kernel
theorem dX9_locked_31 : decode cX9_locked 31 = .ok (.ireturn, 1) := by decide +kernel
theorem dX9_locked_32 : decode cX9_locked 32 = .ok (.iconst 0, 1) := by decide +kernel
theorem dX9_locked_33 : decode cX9_locked 33 = .ok (.istore_n 1, 1) := by decide +kernel
theorem dX9_locked_34 : decode cX9_locked 34 = .ok (.iconst 0, 1) := by decide +kernel
theorem dX9_locked_35 : decode cX9_locked 35 = .ok (.istore_n 2, 1) := by decide +kernel
theorem dX9_locked_36 : decode cX9_locked 36 = .ok (.iload_n 2, 1) := by decide +kernel
theorem dX9_locked_37 : decode cX9_locked 37 = .ok (.iconst 3, 1) := by decide +kernel
theorem dX9_locked_38 : decode cX9_locked 38 = .ok (.if_icmp .ge 26, 3) := by decide +kernel
theorem dX9_locked_41 : decode cX9_locked 41 = .ok (.aload_n 0, 1) := by decide +kernel
theorem dX9_locked_42 : decode cX9_locked 42 = .ok (.getfield 32, 3) := by decide +kernel
theorem dX9_locked_45 : decode cX9_locked 45 = .ok (.iload_n 2, 1) := by decide +kernel
theorem dX9_locked_46 : decode cX9_locked 46 = .ok (.invokevirtual 210, 3) := by decide +kernel
theorem dX9_locked_49 : decode cX9_locked 49 = .ok (.ifCond .ne 9, 3) := by decide +kernel
theorem dX9_locked_52 : decode cX9_locked 52 = .ok (.iload_n 1, 1) := by decide +kernel
theorem dX9_locked_53 : decode cX9_locked 53 = .ok (.iconst 1, 1) := by decide +kernel
theorem dX9_locked_54 : decode cX9_locked 54 = .ok (.iload_n 2, 1) := by decide +kernel
theorem dX9_locked_55 : decode cX9_locked 55 = .ok (.ishl, 1) := by decide +kernel
theorem dX9_locked_56 : decode cX9_locked 56 = .ok (.ior, 1) := by decide +kernel
theorem dX9_locked_57 : decode cX9_locked 57 = .ok (.istore_n 1, 1) := by decide +kernel
theorem dX9_locked_58 : decode cX9_locked 58 = .ok (.iinc 2 1, 3) := by decide +kernel
theorem dX9_locked_61 : decode cX9_locked 61 = .ok (.goto (-25), 3) := by decide +kernel
theorem dX9_locked_64 : decode cX9_locked 64 = .ok (.iload_n 1, 1) := by decide +kernel
theorem dX9_locked_65 : decode cX9_locked 65 = .ok (.ireturn, 1) := by decide +kernel
set_option maxRecDepth 20000 in
theorem ggX9_line_X9_markAt : GoodIn wsX9_line wsX9_markAt := goodIn_r _ [6, 7, 8, 26, 27, 28, 29, 30, 31, 32, 33] (by decide +kernel) (by decide +kernel)
set_option maxRecDepth 20000 in
theorem gX9_line_X9_markAt : GoodIn wsX9_line (wsV RX9 65 RX9 yX9_markAt wsX9_markAt) := goodIn_app (goodIn_of _ (by decide +kernel)) ggX9_line_X9_markAt
set_option maxRecDepth 20000 in
theorem ggX9_line_X9_within : GoodIn wsX9_line wsX9_within := goodIn_r _ [11] (by decide +kernel) (by decide +kernel)
set_option maxRecDepth 20000 in
theorem gX9_line_X9_within : GoodIn wsX9_line (va_wsS RX9 50 yX9_within wsX9_within) := goodIn_app (goodIn_of _ (by decide +kernel)) ggX9_line_X9_within
set_option maxRecDepth 20000 in
theorem ggX9_line_X2_addLine : GoodIn wsX9_line wsX2_addLine := goodIn_r _ [16, 17, 18, 19, 20, 21, 34, 35, 36, 37, 38, 39, 40, 41, 42, 43, 44] (by decide +kernel) (by decide +kernel)
set_option maxRecDepth 20000 in
theorem gX9_line_X2_addLine : GoodIn wsX9_line (wsV RX9 216 RX2 yX2_addLine wsX2_addLine) := goodIn_app (goodIn_of _ (by decide +kernel)) ggX9_line_X2_addLine
set_option maxRecDepth 20000 in
theorem ggX9_line_X2_lineCount : GoodIn wsX9_line wsX2_lineCount := goodIn_r _ [25, 17, 34, 35, 36, 37, 38, 39, 40, 41, 42, 43, 44] (by decide +kernel) (by decide +kernel)
set_option maxRecDepth 20000 in
theorem gX9_line_X2_lineCount : GoodIn wsX9_line (wsV RX9 219 RX2 yX2_lineCount wsX2_lineCount) := goodIn_app (goodIn_of _ (by decide +kernel)) ggX9_line_X2_lineCount
theorem dX9_line_0 : decode cX9_line 0 = .ok (.aload_n 0, 1) := by decide +kernel
theorem dX9_line_1 : decode cX9_line 1 = .ok (.iload_n 1, 1) := by decide +kernel
theorem dX9_line_2 : decode cX9_line 2 = .ok (.invokevirtual 65, 3) := by decide +kernel
theorem dX9_line_5 : decode cX9_line 5 = .ok (.ifnull 26, 3) := by decide +kernel
theorem dX9_line_8 : decode cX9_line 8 = .ok (.aload_n 0, 1) := by decide +kernel
theorem dX9_line_9 : decode cX9_line 9 = .ok (.iload_n 2, 1) := by decide +kernel
theorem dX9_line_10 : decode cX9_line 10 = .ok (.invokevirtual 65, 3) := by decide +kernel
theorem dX9_line_13 : decode cX9_line 13 = .ok (.ifnull 18, 3) := by decide +kernel
theorem dX9_line_16 : decode cX9_line 16 = .ok (.iload_n 1, 1) := by decide +kernel
theorem dX9_line_17 : decode cX9_line 17 = .ok (.iload_n 2, 1) := by decide +kernel
theorem dX9_line_18 : decode cX9_line 18 = .ok (.if_icmp .eq 13, 3) := by decide +kernel
theorem dX9_line_21 : decode cX9_line 21 = .ok (.iload_n 3, 1) := by decide +kernel
theorem dX9_line_22 : decode cX9_line 22 = .ok (.sipush 10000, 3) := by decide +kernel
theorem dX9_line_25 : decode cX9_line 25 = .ok (.invokestatic 50, 3) := by decide +kernel
theorem dX9_line_28 : decode cX9_line 28 = .ok (.ifCond .ne 5, 3) := by decide +kernel
theorem dX9_line_31 : decode cX9_line 31 = .ok (.iconst (-1), 1) := by decide +kernel
theorem dX9_line_32 : decode cX9_line 32 = .ok (.ireturn, 1) := by decide +kernel
theorem dX9_line_33 : decode cX9_line 33 = .ok (.aload_n 0, 1) := by decide +kernel
theorem dX9_line_34 : decode cX9_line 34 = .ok (.getfield 39, 3) := by decide +kernel
theorem dX9_line_37 : decode cX9_line 37 = .ok (.iload_n 1, 1) := by decide +kernel
theorem dX9_line_38 : decode cX9_line 38 = .ok (.iload_n 2, 1) := by decide +kernel
theorem dX9_line_39 : decode cX9_line 39 = .ok (.iload_n 3, 1) := by decide +kernel
theorem dX9_line_40 : decode cX9_line 40 = .ok (.invokevirtual 216, 3) := by decide +kernel
theorem dX9_line_43 : decode cX9_line 43 = .ok (.ifCond .eq 15, 3) := by decide +kernel
theorem dX9_line_46 : decode cX9_line 46 = .ok (.aload_n 0, 1) := by decide +kernel
theorem dX9_line_47 : decode cX9_line 47 = .ok (.getfield 39, 3) := by decide +kernel
theorem dX9_line_50 : decode cX9_line 50 = .ok (.invokevirtual 219, 3) := by decide +kernel
theorem dX9_line_53 : decode cX9_line 53 = .ok (.iconst 1, 1) := by decide +kernel
theorem dX9_line_54 : decode cX9_line 54 = .ok (.isub, 1) := by decide +kernel
theorem dX9_line_55 : decode cX9_line 55 = .ok (.goto 5, 3) := by decide +kernel
theorem dX9_line_58 : decode cX9_line 58 = .ok (.bipush (-2), 2) := by decide +kernel
theorem dX9_line_60 : decode cX9_line 60 = .ok (.ireturn, 1) := by decide +kernel
set_option maxRecDepth 20000 in
theorem ggX9_unline_X2_dropLine : GoodIn wsX9_unline wsX2_dropLine := goodIn_r _ [6, 7, 8, 21, 22, 23, 24, 25, 26, 27, 28, 29, 30, 31] (by decide +kernel) (by decide +kernel)
set_option maxRecDepth 20000 in
theorem gX9_unline_X2_dropLine : GoodIn wsX9_unline (wsV RX9 222 RX2 yX2_dropLine wsX2_dropLine) := goodIn_app (goodIn_of _ (by decide +kernel)) ggX9_unline_X2_dropLine
set_option maxRecDepth 20000 in
theorem ggX9_unline_X2_lineCount : GoodIn wsX9_unline wsX2_lineCount := goodIn_r _ [12, 7, 21, 22, 23, 24, 25, 26, 27, 28, 29, 30, 31] (by decide +kernel) (by decide +kernel)
set_option maxRecDepth 20000 in
theorem gX9_unline_X2_lineCount : GoodIn wsX9_unline (wsV RX9 219 RX2 yX2_lineCount wsX2_lineCount) := goodIn_app (goodIn_of _ (by decide +kernel)) ggX9_unline_X2_lineCount
theorem dX9_unline_0 : decode cX9_unline 0 = .ok (.aload_n 0, 1) := by decide +kernel
theorem dX9_unline_1 : decode cX9_unline 1 = .ok (.getfield 39, 3) := by decide +kernel
theorem dX9_unline_4 : decode cX9_unline 4 = .ok (.invokevirtual 222, 3) := by decide +kernel
theorem dX9_unline_7 : decode cX9_unline 7 = .ok (.ifCond .eq 13, 3) := by decide +kernel
theorem dX9_unline_10 : decode cX9_unline 10 = .ok (.aload_n 0, 1) := by decide +kernel
theorem dX9_unline_11 : decode cX9_unline 11 = .ok (.getfield 39, 3) := by decide +kernel
theorem dX9_unline_14 : decode cX9_unline 14 = .ok (.invokevirtual 219, 3) := by decide +kernel
theorem dX9_unline_17 : decode cX9_unline 17 = .ok (.goto 5, 3) := by decide +kernel
theorem dX9_unline_20 : decode cX9_unline 20 = .ok (.bipush (-3), 2) := by decide +kernel
theorem dX9_unline_22 : decode cX9_unline 22 = .ok (.ireturn, 1) := by decide +kernel
set_option maxRecDepth 20000 in
theorem ggX9_wrong_X2_wrongLines : GoodIn wsX9_wrong wsX2_wrongLines := goodIn_r _ [6, 7, 8, 9, 10, 5, 11, 12, 13, 14, 15, 16, 17, 18, 19, 20, 21, 22, 23, 24, 25, 26, 27, 28, 29, 30, 31, 32, 33, 49, 50, 51, 52, 53, 54, 55, 56, 57, 58, 59] (by decide +kernel) (by decide +kernel)
set_option maxRecDepth 20000 in
theorem gX9_wrong_X2_wrongLines : GoodIn wsX9_wrong (wsV RX9 226 RX2 yX2_wrongLines wsX2_wrongLines) := goodIn_app (goodIn_of _ (by decide +kernel)) ggX9_wrong_X2_wrongLines
set_option maxRecDepth 20000 in
theorem ggX9_wrong_J6_bitCount_0f7a4 : GoodIn wsX9_wrong wsJ6_bitCount_0f7a4 := goodIn_r _ [37, 38, 39, 40] (by decide +kernel) (by decide +kernel)
set_option maxRecDepth 20000 in
theorem gX9_wrong_J6_bitCount_0f7a4 : GoodIn wsX9_wrong (va_wsS RX9 229 yJ6_bitCount_0f7a4 wsJ6_bitCount_0f7a4) := goodIn_app (goodIn_of _ (by decide +kernel)) ggX9_wrong_J6_bitCount_0f7a4
theorem dX9_wrong_0 : decode cX9_wrong 0 = .ok (.iload_n 1, 1) := by decide +kernel
theorem dX9_wrong_1 : decode cX9_wrong 1 = .ok (.ifCond .lt 8, 3) := by decide +kernel
theorem dX9_wrong_4 : decode cX9_wrong 4 = .ok (.iload_n 1, 1) := by decide +kernel
theorem dX9_wrong_5 : decode cX9_wrong 5 = .ok (.iconst 1, 1) := by decide +kernel
theorem dX9_wrong_6 : decode cX9_wrong 6 = .ok (.if_icmp .le 5, 3) := by decide +kernel
theorem dX9_wrong_9 : decode cX9_wrong 9 = .ok (.iconst (-1), 1) := by decide +kernel
theorem dX9_wrong_10 : decode cX9_wrong 10 = .ok (.ireturn, 1) := by decide +kernel
theorem dX9_wrong_11 : decode cX9_wrong 11 = .ok (.aload_n 0, 1) := by decide +kernel
theorem dX9_wrong_12 : decode cX9_wrong 12 = .ok (.getfield 39, 3) := by decide +kernel
theorem dX9_wrong_15 : decode cX9_wrong 15 = .ok (.invokevirtual 226, 3) := by decide +kernel
theorem dX9_wrong_18 : decode cX9_wrong 18 = .ok (.istore_n 2, 1) := by decide +kernel
theorem dX9_wrong_19 : decode cX9_wrong 19 = .ok (.iload_n 1, 1) := by decide +kernel
theorem dX9_wrong_20 : decode cX9_wrong 20 = .ok (.ifCond .ne 10, 3) := by decide +kernel
theorem dX9_wrong_23 : decode cX9_wrong 23 = .ok (.iload_n 2, 1) := by decide +kernel
theorem dX9_wrong_24 : decode cX9_wrong 24 = .ok (.invokestatic 229, 3) := by decide +kernel
theorem dX9_wrong_27 : decode cX9_wrong 27 = .ok (.goto 4, 3) := by decide +kernel
theorem dX9_wrong_30 : decode cX9_wrong 30 = .ok (.iload_n 2, 1) := by decide +kernel
theorem dX9_wrong_31 : decode cX9_wrong 31 = .ok (.ireturn, 1) := by decide +kernel
theorem dX9_height_0 : decode cX9_height 0 = .ok (.aload_n 0, 1) := by decide +kernel
theorem dX9_height_1 : decode cX9_height 1 = .ok (.iload_n 1, 1) := by decide +kernel
theorem dX9_height_2 : decode cX9_height 2 = .ok (.invokevirtual 65, 3) := by decide +kernel
theorem dX9_height_5 : decode cX9_height 5 = .ok (.ifnonnull 13, 3) := by decide +kernel
theorem dX9_height_8 : decode cX9_height 8 = .ok (.new 97, 3) := by decide +kernel
theorem dX9_height_11 : decode cX9_height 11 = .ok (.dup, 1) := by decide +kernel
theorem dX9_height_12 : decode cX9_height 12 = .ok (.ldc 234, 2) := by decide +kernel
theorem dX9_height_14 : decode cX9_height 14 = .ok (.invokespecial 101, 3) := by decide +kernel
theorem dX9_height_17 : decode cX9_height 17 = .ok (.athrow, 1) := by decide +kernel
theorem dX9_height_18 : decode cX9_height 18 = .ok (.aload_n 0, 1) := by decide +kernel
theorem dX9_height_19 : decode cX9_height 19 = .ok (.getfield 39, 3) := by decide +kernel
theorem dX9_height_22 : decode cX9_height 22 = .ok (.iload_n 1, 1) := by decide +kernel
theorem dX9_height_23 : decode cX9_height 23 = .ok (.invokevirtual 236, 3) := by decide +kernel
theorem dX9_height_26 : decode cX9_height 26 = .ok (.ifCond .ne 13, 3) := by decide +kernel
theorem dX9_height_29 : decode cX9_height 29 = .ok (.new 107, 3) := by decide +kernel
theorem dX9_height_32 : decode cX9_height 32 = .ok (.dup, 1) := by decide +kernel
theorem dX9_height_33 : decode cX9_height 33 = .ok (.ldc 239, 2) := by decide +kernel
theorem dX9_height_35 : decode cX9_height 35 = .ok (.invokespecial 111, 3) := by decide +kernel
theorem dX9_height_38 : decode cX9_height 38 = .ok (.athrow, 1) := by decide +kernel
theorem dX9_height_39 : decode cX9_height 39 = .ok (.aload_n 0, 1) := by decide +kernel
theorem dX9_height_40 : decode cX9_height 40 = .ok (.getfield 39, 3) := by decide +kernel
theorem dX9_height_43 : decode cX9_height 43 = .ok (.iload_n 1, 1) := by decide +kernel
theorem dX9_height_44 : decode cX9_height 44 = .ok (.invokevirtual 241, 3) := by decide +kernel
theorem dX9_height_47 : decode cX9_height 47 = .ok (.lreturn, 1) := by decide +kernel
set_option maxRecDepth 20000 in
theorem ggX9_count_X9_allReadings : GoodIn wsX9_count wsX9_allReadings := goodIn_r _ [8, 1, 9, 10, 11, 7, 12, 13, 14, 15, 16, 17, 18, 19, 20, 21, 22, 23, 24, 45, 46, 47, 48, 49, 50, 51, 52, 53, 54, 55, 56, 57, 58, 59, 60, 61, 62, 63, 64, 65, 66, 67, 68, 69, 70, 71, 72, 73, 74, 75, 76, 77, 78, 79, 80, 81, 82, 83, 84, 85, 86, 87, 88, 89, 90, 91, 92, 93, 94, 95, 96, 97, 98, 99, 100] (by decide +kernel) (by decide +kernel)
set_option maxRecDepth 20000 in
theorem gX9_count_X9_allReadings : GoodIn wsX9_count (wsV RX9 245 RX9 yX9_allReadings wsX9_allReadings) := goodIn_app (goodIn_of _ (by decide +kernel)) ggX9_count_X9_allReadings
set_option maxRecDepth 20000 in
theorem ggX9_count_X9_allSteps : GoodIn wsX9_count wsX9_allSteps := goodIn_r _ [28, 1, 9, 10, 11, 7, 12, 13, 29, 30, 31, 32, 18, 33, 34, 35, 36, 37, 38, 45, 46, 47, 48, 49, 50, 51, 52, 53, 54, 55, 56, 57, 58, 59, 60, 61, 62, 63, 64, 65, 66, 67, 68, 69, 70, 71, 72, 73, 74, 75, 76, 77, 78, 79, 80, 81, 82, 83, 84, 85, 86, 87, 88, 89, 90, 91, 92, 93, 94, 95, 96, 97, 98, 99, 100] (by decide +kernel) (by decide +kernel)
set_option maxRecDepth 20000 in
theorem gX9_count_X9_allSteps : GoodIn wsX9_count (wsV RX9 248 RX9 yX9_allSteps wsX9_allSteps) := goodIn_app (goodIn_of _ (by decide +kernel)) ggX9_count_X9_allSteps
set_option maxRecDepth 20000 in
theorem ggX9_count_X2_lineCount : GoodIn wsX9_count wsX2_lineCount := goodIn_r _ [43, 44, 101, 102, 103, 104, 105, 106, 107, 108, 109, 110, 111] (by decide +kernel) (by decide +kernel)
set_option maxRecDepth 20000 in
theorem gX9_count_X2_lineCount : GoodIn wsX9_count (wsV RX9 219 RX2 yX2_lineCount wsX2_lineCount) := goodIn_app (goodIn_of _ (by decide +kernel)) ggX9_count_X2_lineCount
theorem dX9_count_0 : decode cX9_count 0 = .ok (.iload_n 1, 1) := by decide +kernel
theorem dX9_count_1 : decode cX9_count 1 = .ok (.tableswitch 63 0 4 #[35, 40, 45, 50, 58], 35) := by decide +kernel
theorem dX9_count_36 : decode cX9_count 36 = .ok (.aload_n 0, 1) := by decide +kernel
theorem dX9_count_37 : decode cX9_count 37 = .ok (.getfield 54, 3) := by decide +kernel
theorem dX9_count_40 : decode cX9_count 40 = .ok (.ireturn, 1) := by decide +kernel
theorem dX9_count_41 : decode cX9_count 41 = .ok (.aload_n 0, 1) := by decide +kernel
theorem dX9_count_42 : decode cX9_count 42 = .ok (.invokevirtual 245, 3) := by decide +kernel
theorem dX9_count_45 : decode cX9_count 45 = .ok (.ireturn, 1) := by decide +kernel
theorem dX9_count_46 : decode cX9_count 46 = .ok (.aload_n 0, 1) := by decide +kernel
theorem dX9_count_47 : decode cX9_count 47 = .ok (.invokevirtual 248, 3) := by decide +kernel
theorem dX9_count_50 : decode cX9_count 50 = .ok (.ireturn, 1) := by decide +kernel
theorem dX9_count_51 : decode cX9_count 51 = .ok (.aload_n 0, 1) := by decide +kernel
theorem dX9_count_52 : decode cX9_count 52 = .ok (.getfield 39, 3) := by decide +kernel
theorem dX9_count_55 : decode cX9_count 55 = .ok (.invokevirtual 219, 3) := by decide +kernel
theorem dX9_count_58 : decode cX9_count 58 = .ok (.ireturn, 1) := by decide +kernel
theorem dX9_count_59 : decode cX9_count 59 = .ok (.aload_n 0, 1) := by decide +kernel
theorem dX9_count_60 : decode cX9_count 60 = .ok (.getfield 201, 3) := by decide +kernel
theorem dX9_count_63 : decode cX9_count 63 = .ok (.ireturn, 1) := by decide +kernel
theorem dX9_count_64 : decode cX9_count 64 = .ok (.iconst (-1), 1) := by decide +kernel
theorem dX9_count_65 : decode cX9_count 65 = .ok (.ireturn, 1) := by decide +kernel
set_option maxRecDepth 20000 in
theorem ggX9_keep_X9_shelfAt : GoodIn wsX9_keep wsX9_shelfAt := goodIn_r _ [6, 7, 121, 122, 123, 124, 125, 126, 127, 128] (by decide +kernel) (by decide +kernel)
set_option maxRecDepth 20000 in
theorem gX9_keep_X9_shelfAt : GoodIn wsX9_keep (wsV RX9 251 RX9 yX9_shelfAt wsX9_shelfAt) := goodIn_app (goodIn_of _ (by decide +kernel)) ggX9_keep_X9_shelfAt
set_option maxRecDepth 20000 in
theorem ggX9_keep_X6_clear : GoodIn wsX9_keep wsX6_clear := goodIn_r _ [12, 13, 14, 15, 129, 130, 131, 132] (by decide +kernel) (by decide +kernel)
set_option maxRecDepth 20000 in
theorem gX9_keep_X6_clear : GoodIn wsX9_keep (wsV RX9 255 RX6 yX6_clear wsX6_clear) := goodIn_app (goodIn_of _ (by decide +kernel)) ggX9_keep_X6_clear
set_option maxRecDepth 20000 in
theorem ggX9_keep_X9_markAt : GoodIn wsX9_keep wsX9_markAt := goodIn_r _ [19, 20, 21, 121, 122, 123, 124, 125, 126, 127, 128] (by decide +kernel) (by decide +kernel)
set_option maxRecDepth 20000 in
theorem gX9_keep_X9_markAt : GoodIn wsX9_keep (wsV RX9 65 RX9 yX9_markAt wsX9_markAt) := goodIn_app (goodIn_of _ (by decide +kernel)) ggX9_keep_X9_markAt
set_option maxRecDepth 20000 in
theorem ggX9_keep_X6_holdMark : GoodIn wsX9_keep wsX6_holdMark := goodIn_r _ [25, 13, 15, 26, 9, 10, 11, 12, 14, 129, 130, 131, 132] (by decide +kernel) (by decide +kernel)
set_option maxRecDepth 20000 in
theorem gX9_keep_X6_holdMark : GoodIn wsX9_keep (wsV RX9 258 RX6 yX6_holdMark wsX6_holdMark) := goodIn_app (goodIn_of _ (by decide +kernel)) ggX9_keep_X6_holdMark
set_option maxRecDepth 20000 in
theorem ggX9_keep_X5_gather : GoodIn wsX9_keep wsX5_gather := goodIn_r _ [31, 32, 33, 34, 35, 36, 37, 38, 39, 40, 41, 42, 43, 44, 45, 46, 47, 48, 49, 50, 51, 52, 53, 54, 55, 56, 57, 58, 59, 60, 61, 62, 63, 64, 65, 66, 67, 68, 69, 70, 71, 72, 73, 74, 75, 76, 77, 78, 79, 80, 81, 82, 83, 84, 85, 86, 87, 88, 89, 90, 91, 92, 93, 94, 95, 96, 97, 98, 99, 133, 134, 135, 136, 137, 138, 139, 140, 141, 142, 143, 144, 145, 146, 147, 148, 149, 150, 151, 152, 153, 154, 155, 156, 157, 158, 159, 160, 161, 162, 163, 164, 165, 166, 167, 168, 169, 170, 171, 172, 173, 174, 175, 176, 177, 178, 179, 180, 181, 182, 183] (by decide +kernel) (by decide +kernel)
set_option maxRecDepth 20000 in
theorem gX9_keep_X5_gather : GoodIn wsX9_keep (wsV RX9 116 RX5 yX5_gather wsX5_gather) := goodIn_app (goodIn_of _ (by decide +kernel)) ggX9_keep_X5_gather
set_option maxRecDepth 20000 in
theorem ggX9_keep_X6_holdSeries : GoodIn wsX9_keep wsX6_holdSeries := goodIn_r _ [103, 104, 105, 106, 107, 30, 108, 32, 109, 110, 111, 11, 112, 13, 14, 26, 9, 10, 12, 15, 113, 114, 115, 116, 33, 117, 118, 119, 120, 34, 129, 130, 131, 132, 133, 134, 135] (by decide +kernel) (by decide +kernel)
set_option maxRecDepth 20000 in
theorem gX9_keep_X6_holdSeries : GoodIn wsX9_keep (wsV RX9 262 RX6 yX6_holdSeries wsX6_holdSeries) := goodIn_app (goodIn_of _ (by decide +kernel)) ggX9_keep_X6_holdSeries
theorem dX9_keep_0 : decode cX9_keep 0 = .ok (.aload_n 0, 1) := by decide +kernel
theorem dX9_keep_1 : decode cX9_keep 1 = .ok (.iload_n 1, 1) := by decide +kernel
theorem dX9_keep_2 : decode cX9_keep 2 = .ok (.invokevirtual 251, 3) := by decide +kernel
theorem dX9_keep_5 : decode cX9_keep 5 = .ok (.astore 4, 2) := by decide +kernel
theorem dX9_keep_7 : decode cX9_keep 7 = .ok (.aload 4, 2) := by decide +kernel
theorem dX9_keep_9 : decode cX9_keep 9 = .ok (.ifnonnull 5, 3) := by decide +kernel
theorem dX9_keep_12 : decode cX9_keep 12 = .ok (.iconst (-1), 1) := by decide +kernel
theorem dX9_keep_13 : decode cX9_keep 13 = .ok (.ireturn, 1) := by decide +kernel
theorem dX9_keep_14 : decode cX9_keep 14 = .ok (.iload_n 2, 1) := by decide +kernel
theorem dX9_keep_15 : decode cX9_keep 15 = .ok (.ifCond .ne 10, 3) := by decide +kernel
theorem dX9_keep_18 : decode cX9_keep 18 = .ok (.aload 4, 2) := by decide +kernel
theorem dX9_keep_20 : decode cX9_keep 20 = .ok (.invokevirtual 255, 3) := by decide +kernel
theorem dX9_keep_23 : decode cX9_keep 23 = .ok (.iconst 0, 1) := by decide +kernel
theorem dX9_keep_24 : decode cX9_keep 24 = .ok (.ireturn, 1) := by decide +kernel
theorem dX9_keep_25 : decode cX9_keep 25 = .ok (.aload_n 0, 1) := by decide +kernel
theorem dX9_keep_26 : decode cX9_keep 26 = .ok (.iload_n 3, 1) := by decide +kernel
theorem dX9_keep_27 : decode cX9_keep 27 = .ok (.invokevirtual 65, 3) := by decide +kernel
theorem dX9_keep_30 : decode cX9_keep 30 = .ok (.astore 5, 2) := by decide +kernel
theorem dX9_keep_32 : decode cX9_keep 32 = .ok (.aload 5, 2) := by decide +kernel
theorem dX9_keep_34 : decode cX9_keep 34 = .ok (.ifnonnull 5, 3) := by decide +kernel
theorem dX9_keep_37 : decode cX9_keep 37 = .ok (.iconst (-1), 1) := by decide +kernel
theorem dX9_keep_38 : decode cX9_keep 38 = .ok (.ireturn, 1) := by decide +kernel
theorem dX9_keep_39 : decode cX9_keep 39 = .ok (.iload_n 2, 1) := by decide +kernel
theorem dX9_keep_40 : decode cX9_keep 40 = .ok (.tableswitch 63 1 4 #[32, 63, 41, 41], 32) := by decide +kernel
theorem dX9_keep_72 : decode cX9_keep 72 = .ok (.aload 4, 2) := by decide +kernel
theorem dX9_keep_74 : decode cX9_keep 74 = .ok (.aload 5, 2) := by decide +kernel
theorem dX9_keep_76 : decode cX9_keep 76 = .ok (.invokevirtual 258, 3) := by decide +kernel
theorem dX9_keep_79 : decode cX9_keep 79 = .ok (.iconst 0, 1) := by decide +kernel
theorem dX9_keep_80 : decode cX9_keep 80 = .ok (.ireturn, 1) := by decide +kernel
theorem dX9_keep_81 : decode cX9_keep 81 = .ok (.aload_n 0, 1) := by decide +kernel
theorem dX9_keep_82 : decode cX9_keep 82 = .ok (.getfield 18, 3) := by decide +kernel
theorem dX9_keep_85 : decode cX9_keep 85 = .ok (.aload 5, 2) := by decide +kernel
theorem dX9_keep_87 : decode cX9_keep 87 = .ok (.iconst 0, 1) := by decide +kernel
theorem dX9_keep_88 : decode cX9_keep 88 = .ok (.invokevirtual 116, 3) := by decide +kernel
theorem dX9_keep_91 : decode cX9_keep 91 = .ok (.aload 4, 2) := by decide +kernel
theorem dX9_keep_93 : decode cX9_keep 93 = .ok (.aload_n 0, 1) := by decide +kernel
theorem dX9_keep_94 : decode cX9_keep 94 = .ok (.getfield 18, 3) := by decide +kernel
theorem dX9_keep_97 : decode cX9_keep 97 = .ok (.iload_n 2, 1) := by decide +kernel
theorem dX9_keep_98 : decode cX9_keep 98 = .ok (.invokevirtual 262, 3) := by decide +kernel
theorem dX9_keep_101 : decode cX9_keep 101 = .ok (.iconst 0, 1) := by decide +kernel
theorem dX9_keep_102 : decode cX9_keep 102 = .ok (.ireturn, 1) := by decide +kernel
theorem dX9_keep_103 : decode cX9_keep 103 = .ok (.iconst (-1), 1) := by decide +kernel
theorem dX9_keep_104 : decode cX9_keep 104 = .ok (.ireturn, 1) := by decide +kernel
set_option maxRecDepth 20000 in
theorem ggX9_make_X9_shelfAt : GoodIn wsX9_make wsX9_shelfAt := goodIn_r _ [5, 6, 20, 21, 22, 23, 24, 25, 26, 27] (by decide +kernel) (by decide +kernel)
set_option maxRecDepth 20000 in
theorem gX9_make_X9_shelfAt : GoodIn wsX9_make (wsV RX9 251 RX9 yX9_shelfAt wsX9_shelfAt) := goodIn_app (goodIn_of _ (by decide +kernel)) ggX9_make_X9_shelfAt
set_option maxRecDepth 20000 in
theorem ggX9_make_X6_holdNoughts : GoodIn wsX9_make wsX6_holdNoughts := goodIn_r _ [11, 12, 13, 14, 15, 16, 17, 10, 18, 19, 28, 29, 30, 31] (by decide +kernel) (by decide +kernel)
set_option maxRecDepth 20000 in
theorem gX9_make_X6_holdNoughts : GoodIn wsX9_make (wsV RX9 266 RX6 yX6_holdNoughts wsX6_holdNoughts) := goodIn_app (goodIn_of _ (by decide +kernel)) ggX9_make_X6_holdNoughts
theorem dX9_make_0 : decode cX9_make 0 = .ok (.aload_n 0, 1) := by decide +kernel
theorem dX9_make_1 : decode cX9_make 1 = .ok (.iload_n 1, 1) := by decide +kernel
theorem dX9_make_2 : decode cX9_make 2 = .ok (.invokevirtual 251, 3) := by decide +kernel
theorem dX9_make_5 : decode cX9_make 5 = .ok (.astore 4, 2) := by decide +kernel
theorem dX9_make_7 : decode cX9_make 7 = .ok (.aload 4, 2) := by decide +kernel
theorem dX9_make_9 : decode cX9_make 9 = .ok (.ifnull 19, 3) := by decide +kernel
theorem dX9_make_12 : decode cX9_make 12 = .ok (.iload_n 2, 1) := by decide +kernel
theorem dX9_make_13 : decode cX9_make 13 = .ok (.iconst 3, 1) := by decide +kernel
theorem dX9_make_14 : decode cX9_make 14 = .ok (.if_icmp .eq 8, 3) := by decide +kernel
theorem dX9_make_17 : decode cX9_make 17 = .ok (.iload_n 2, 1) := by decide +kernel
theorem dX9_make_18 : decode cX9_make 18 = .ok (.iconst 4, 1) := by decide +kernel
theorem dX9_make_19 : decode cX9_make 19 = .ok (.if_icmp .ne 9, 3) := by decide +kernel
theorem dX9_make_22 : decode cX9_make 22 = .ok (.iload_n 3, 1) := by decide +kernel
theorem dX9_make_23 : decode cX9_make 23 = .ok (.bipush 60, 2) := by decide +kernel
theorem dX9_make_25 : decode cX9_make 25 = .ok (.if_icmp .le 5, 3) := by decide +kernel
theorem dX9_make_28 : decode cX9_make 28 = .ok (.iconst (-1), 1) := by decide +kernel
theorem dX9_make_29 : decode cX9_make 29 = .ok (.ireturn, 1) := by decide +kernel
theorem dX9_make_30 : decode cX9_make 30 = .ok (.iload_n 3, 1) := by decide +kernel
theorem dX9_make_31 : decode cX9_make 31 = .ok (.ifCond .ge 6, 3) := by decide +kernel
theorem dX9_make_34 : decode cX9_make 34 = .ok (.bipush (-14), 2) := by decide +kernel
