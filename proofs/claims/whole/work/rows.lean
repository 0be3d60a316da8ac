section
-- ===== PART A: goes FIRST, ahead of the names: the tables' words, and 'selects' of the private methods out of them =====
/-- a private method of a class that the tables say can be made, by its rows of tables_1 -/
def lw_okq (q : MethodName × Nat) : Prop := (q.1.cls ≠ "java/lang/invoke/MethodHandle" ∧ q.1.cls ≠ "java/lang/invoke/VarHandle") ∧ Cond.instantiable q.1.cls q.2 ∈ tables_1 ∧ Cond.privateMethod q.1 ∈ tables_1 ∧ Cond.instanceMethod q.1 ∈ tables_1
theorem lw_p0 : lw_okq (⟨"CreepBoard", "forgetMotion", "()V"⟩, 8) := ⟨⟨by decide +kernel, by decide +kernel⟩, List.mem_of_getElem? (i := 21) (by decide +kernel), List.mem_of_getElem? (i := 299) (by decide +kernel), List.mem_of_getElem? (i := 300) (by decide +kernel)⟩
theorem lw_p1 : lw_okq (⟨"CreepBoard", "markAt", "(I)LCreepBoard$Mark;"⟩, 8) := ⟨⟨by decide +kernel, by decide +kernel⟩, List.mem_of_getElem? (i := 21) (by decide +kernel), List.mem_of_getElem? (i := 315) (by decide +kernel), List.mem_of_getElem? (i := 316) (by decide +kernel)⟩
theorem lw_p2 : lw_okq (⟨"CreepBoard$Buoy", "seasonMean", "(II)J"⟩, 11) := ⟨⟨by decide +kernel, by decide +kernel⟩, List.mem_of_getElem? (i := 267) (by decide +kernel), List.mem_of_getElem? (i := 406) (by decide +kernel), List.mem_of_getElem? (i := 407) (by decide +kernel)⟩
theorem lw_p3 : lw_okq (⟨"CreepBoard$BlockFinder", "tellTurns", "([LCreepBoard$Mark;I)V"⟩, 6) := ⟨⟨by decide +kernel, by decide +kernel⟩, List.mem_of_getElem? (i := 49) (by decide +kernel), List.mem_of_getElem? (i := 507) (by decide +kernel), List.mem_of_getElem? (i := 508) (by decide +kernel)⟩
theorem lw_p4 : lw_okq (⟨"CreepBoard$BlockFinder", "tellFewest", "(I)V"⟩, 6) := ⟨⟨by decide +kernel, by decide +kernel⟩, List.mem_of_getElem? (i := 49) (by decide +kernel), List.mem_of_getElem? (i := 512) (by decide +kernel), List.mem_of_getElem? (i := 513) (by decide +kernel)⟩
theorem lw_p5 : lw_okq (⟨"CreepBoard$BlockFinder", "giveOut", "(II)V"⟩, 6) := ⟨⟨by decide +kernel, by decide +kernel⟩, List.mem_of_getElem? (i := 49) (by decide +kernel), List.mem_of_getElem? (i := 522) (by decide +kernel), List.mem_of_getElem? (i := 523) (by decide +kernel)⟩
theorem lw_p6 : lw_okq (⟨"CreepBoard$BlockFinder", "setBlock", "(I)V"⟩, 6) := ⟨⟨by decide +kernel, by decide +kernel⟩, List.mem_of_getElem? (i := 49) (by decide +kernel), List.mem_of_getElem? (i := 526) (by decide +kernel), List.mem_of_getElem? (i := 527) (by decide +kernel)⟩
theorem lw_p7 : lw_okq (⟨"CreepBoard$SlipFinder", "narrow", "(III)V"⟩, 6) := ⟨⟨by decide +kernel, by decide +kernel⟩, List.mem_of_getElem? (i := 75) (by decide +kernel), List.mem_of_getElem? (i := 579) (by decide +kernel), List.mem_of_getElem? (i := 580) (by decide +kernel)⟩
theorem lw_p8 : lw_okq (⟨"CreepBoard$SlipFinder", "takeIn", "(II)V"⟩, 6) := ⟨⟨by decide +kernel, by decide +kernel⟩, List.mem_of_getElem? (i := 75) (by decide +kernel), List.mem_of_getElem? (i := 595) (by decide +kernel), List.mem_of_getElem? (i := 596) (by decide +kernel)⟩
theorem lw_p9 : lw_okq (⟨"CreepBoard$SlipFinder", "widen", "(III)V"⟩, 6) := ⟨⟨by decide +kernel, by decide +kernel⟩, List.mem_of_getElem? (i := 75) (by decide +kernel), List.mem_of_getElem? (i := 599) (by decide +kernel), List.mem_of_getElem? (i := 600) (by decide +kernel)⟩
theorem lw_p10 : lw_okq (⟨"CreepBoard$Levels", "find", "()V"⟩, 11) := ⟨⟨by decide +kernel, by decide +kernel⟩, List.mem_of_getElem? (i := 100) (by decide +kernel), List.mem_of_getElem? (i := 651) (by decide +kernel), List.mem_of_getElem? (i := 652) (by decide +kernel)⟩
theorem lw_p11 : lw_okq (⟨"CreepBoard$Levels", "judge", "(IIII)V"⟩, 11) := ⟨⟨by decide +kernel, by decide +kernel⟩, List.mem_of_getElem? (i := 100) (by decide +kernel), List.mem_of_getElem? (i := 655) (by decide +kernel), List.mem_of_getElem? (i := 656) (by decide +kernel)⟩
theorem lw_p12 : lw_okq (⟨"CreepBoard$Levels", "join", "(II)V"⟩, 11) := ⟨⟨by decide +kernel, by decide +kernel⟩, List.mem_of_getElem? (i := 100) (by decide +kernel), List.mem_of_getElem? (i := 662) (by decide +kernel), List.mem_of_getElem? (i := 663) (by decide +kernel)⟩
theorem lw_p13 : lw_okq (⟨"CreepBoard", "allReadings", "()I"⟩, 8) := ⟨⟨by decide +kernel, by decide +kernel⟩, List.mem_of_getElem? (i := 21) (by decide +kernel), List.mem_of_getElem? (i := 671) (by decide +kernel), List.mem_of_getElem? (i := 672) (by decide +kernel)⟩
theorem lw_p14 : lw_okq (⟨"CreepBoard", "allSteps", "()I"⟩, 8) := ⟨⟨by decide +kernel, by decide +kernel⟩, List.mem_of_getElem? (i := 21) (by decide +kernel), List.mem_of_getElem? (i := 683) (by decide +kernel), List.mem_of_getElem? (i := 684) (by decide +kernel)⟩
theorem lw_p15 : lw_okq (⟨"CreepBoard", "shelfAt", "(I)LCreepBoard$Shelf;"⟩, 8) := ⟨⟨by decide +kernel, by decide +kernel⟩, List.mem_of_getElem? (i := 21) (by decide +kernel), List.mem_of_getElem? (i := 691) (by decide +kernel), List.mem_of_getElem? (i := 692) (by decide +kernel)⟩
def lw_privs_1 : List (MethodName × Nat) := [(⟨"CreepBoard", "forgetMotion", "()V"⟩, 8), (⟨"CreepBoard", "markAt", "(I)LCreepBoard$Mark;"⟩, 8), (⟨"CreepBoard$Buoy", "seasonMean", "(II)J"⟩, 11), (⟨"CreepBoard$BlockFinder", "tellTurns", "([LCreepBoard$Mark;I)V"⟩, 6), (⟨"CreepBoard$BlockFinder", "tellFewest", "(I)V"⟩, 6), (⟨"CreepBoard$BlockFinder", "giveOut", "(II)V"⟩, 6), (⟨"CreepBoard$BlockFinder", "setBlock", "(I)V"⟩, 6), (⟨"CreepBoard$SlipFinder", "narrow", "(III)V"⟩, 6), (⟨"CreepBoard$SlipFinder", "takeIn", "(II)V"⟩, 6), (⟨"CreepBoard$SlipFinder", "widen", "(III)V"⟩, 6), (⟨"CreepBoard$Levels", "find", "()V"⟩, 11), (⟨"CreepBoard$Levels", "judge", "(IIII)V"⟩, 11), (⟨"CreepBoard$Levels", "join", "(II)V"⟩, 11), (⟨"CreepBoard", "allReadings", "()I"⟩, 8), (⟨"CreepBoard", "allSteps", "()I"⟩, 8), (⟨"CreepBoard", "shelfAt", "(I)LCreepBoard$Shelf;"⟩, 8)]
theorem lw_r1 : ∀ q ∈ lw_privs_1, lw_okq q := List.forall_mem_cons.mpr ⟨lw_p0, List.forall_mem_cons.mpr ⟨lw_p1, List.forall_mem_cons.mpr ⟨lw_p2, List.forall_mem_cons.mpr ⟨lw_p3, List.forall_mem_cons.mpr ⟨lw_p4, List.forall_mem_cons.mpr ⟨lw_p5, List.forall_mem_cons.mpr ⟨lw_p6, List.forall_mem_cons.mpr ⟨lw_p7, List.forall_mem_cons.mpr ⟨lw_p8, List.forall_mem_cons.mpr ⟨lw_p9, List.forall_mem_cons.mpr ⟨lw_p10, List.forall_mem_cons.mpr ⟨lw_p11, List.forall_mem_cons.mpr ⟨lw_p12, List.forall_mem_cons.mpr ⟨lw_p13, List.forall_mem_cons.mpr ⟨lw_p14, List.forall_mem_cons.mpr ⟨lw_p15, fun _ h => absurd h List.not_mem_nil⟩⟩⟩⟩⟩⟩⟩⟩⟩⟩⟩⟩⟩⟩⟩⟩
theorem lw_p16 : lw_okq (⟨"CreepBoard", "refusalOfMarkOn", "(I)I"⟩, 8) := ⟨⟨by decide +kernel, by decide +kernel⟩, List.mem_of_getElem? (i := 21) (by decide +kernel), List.mem_of_getElem? (i := 751) (by decide +kernel), List.mem_of_getElem? (i := 752) (by decide +kernel)⟩
theorem lw_p17 : lw_okq (⟨"CreepBoard", "markOn", "(I)LCreepBoard$Mark;"⟩, 8) := ⟨⟨by decide +kernel, by decide +kernel⟩, List.mem_of_getElem? (i := 21) (by decide +kernel), List.mem_of_getElem? (i := 755) (by decide +kernel), List.mem_of_getElem? (i := 756) (by decide +kernel)⟩
theorem lw_p18 : lw_okq (⟨"java/lang/Throwable", "fillInStackTrace", "(I)Ljava/lang/Throwable;"⟩, 6) := ⟨⟨by decide +kernel, by decide +kernel⟩, List.mem_of_getElem? (i := 830) (by decide +kernel), List.mem_of_getElem? (i := 828) (by decide +kernel), List.mem_of_getElem? (i := 829) (by decide +kernel)⟩
theorem lw_p19 : lw_okq (⟨"CreepBoardModel", "in", "(III)Z"⟩, 33) := ⟨⟨by decide +kernel, by decide +kernel⟩, List.mem_of_getElem? (i := 1004) (by decide +kernel), List.mem_of_getElem? (i := 1118) (by decide +kernel), List.mem_of_getElem? (i := 1119) (by decide +kernel)⟩
theorem lw_p20 : lw_okq (⟨"CreepBoardModel", "isMark", "(I)Z"⟩, 33) := ⟨⟨by decide +kernel, by decide +kernel⟩, List.mem_of_getElem? (i := 1004) (by decide +kernel), List.mem_of_getElem? (i := 1126) (by decide +kernel), List.mem_of_getElem? (i := 1127) (by decide +kernel)⟩
theorem lw_p21 : lw_okq (⟨"CreepBoardModel", "isEpoch", "(I)Z"⟩, 33) := ⟨⟨by decide +kernel, by decide +kernel⟩, List.mem_of_getElem? (i := 1004) (by decide +kernel), List.mem_of_getElem? (i := 1130) (by decide +kernel), List.mem_of_getElem? (i := 1131) (by decide +kernel)⟩
theorem lw_p22 : lw_okq (⟨"CreepBoardModel", "hasAntenna", "(I)Z"⟩, 33) := ⟨⟨by decide +kernel, by decide +kernel⟩, List.mem_of_getElem? (i := 1004) (by decide +kernel), List.mem_of_getElem? (i := 1134) (by decide +kernel), List.mem_of_getElem? (i := 1135) (by decide +kernel)⟩
theorem lw_p23 : lw_okq (⟨"CreepBoardModel", "spot", "(II)I"⟩, 33) := ⟨⟨by decide +kernel, by decide +kernel⟩, List.mem_of_getElem? (i := 1004) (by decide +kernel), List.mem_of_getElem? (i := 1144) (by decide +kernel), List.mem_of_getElem? (i := 1145) (by decide +kernel)⟩
theorem lw_p24 : lw_okq (⟨"CreepBoardModel", "isSide", "(I)Z"⟩, 33) := ⟨⟨by decide +kernel, by decide +kernel⟩, List.mem_of_getElem? (i := 1004) (by decide +kernel), List.mem_of_getElem? (i := 1160) (by decide +kernel), List.mem_of_getElem? (i := 1161) (by decide +kernel)⟩
theorem lw_p25 : lw_okq (⟨"CreepBoardModel", "isCleared", "(II)Z"⟩, 33) := ⟨⟨by decide +kernel, by decide +kernel⟩, List.mem_of_getElem? (i := 1004) (by decide +kernel), List.mem_of_getElem? (i := 1164) (by decide +kernel), List.mem_of_getElem? (i := 1165) (by decide +kernel)⟩
theorem lw_p26 : lw_okq (⟨"CreepBoardModel", "isLeftOut", "(II)Z"⟩, 33) := ⟨⟨by decide +kernel, by decide +kernel⟩, List.mem_of_getElem? (i := 1004) (by decide +kernel), List.mem_of_getElem? (i := 1168) (by decide +kernel), List.mem_of_getElem? (i := 1169) (by decide +kernel)⟩
theorem lw_p27 : lw_okq (⟨"CreepBoardModel", "clear", "(III)J"⟩, 33) := ⟨⟨by decide +kernel, by decide +kernel⟩, List.mem_of_getElem? (i := 1004) (by decide +kernel), List.mem_of_getElem? (i := 1172) (by decide +kernel), List.mem_of_getElem? (i := 1173) (by decide +kernel)⟩
theorem lw_p28 : lw_okq (⟨"CreepBoardModel", "withoutSteps", "(III)J"⟩, 33) := ⟨⟨by decide +kernel, by decide +kernel⟩, List.mem_of_getElem? (i := 1004) (by decide +kernel), List.mem_of_getElem? (i := 1176) (by decide +kernel), List.mem_of_getElem? (i := 1177) (by decide +kernel)⟩
theorem lw_p29 : lw_okq (⟨"CreepBoardModel", "meanOf", "(III)J"⟩, 33) := ⟨⟨by decide +kernel, by decide +kernel⟩, List.mem_of_getElem? (i := 1004) (by decide +kernel), List.mem_of_getElem? (i := 1180) (by decide +kernel), List.mem_of_getElem? (i := 1181) (by decide +kernel)⟩
theorem lw_p30 : lw_okq (⟨"CreepBoardModel", "manyOf", "(I)I"⟩, 33) := ⟨⟨by decide +kernel, by decide +kernel⟩, List.mem_of_getElem? (i := 1004) (by decide +kernel), List.mem_of_getElem? (i := 1188) (by decide +kernel), List.mem_of_getElem? (i := 1189) (by decide +kernel)⟩
theorem lw_p31 : lw_okq (⟨"CreepBoardModel", "lowest", "(JJZ)J"⟩, 33) := ⟨⟨by decide +kernel, by decide +kernel⟩, List.mem_of_getElem? (i := 1004) (by decide +kernel), List.mem_of_getElem? (i := 1196) (by decide +kernel), List.mem_of_getElem? (i := 1197) (by decide +kernel)⟩
def lw_privs_2 : List (MethodName × Nat) := [(⟨"CreepBoard", "refusalOfMarkOn", "(I)I"⟩, 8), (⟨"CreepBoard", "markOn", "(I)LCreepBoard$Mark;"⟩, 8), (⟨"java/lang/Throwable", "fillInStackTrace", "(I)Ljava/lang/Throwable;"⟩, 6), (⟨"CreepBoardModel", "in", "(III)Z"⟩, 33), (⟨"CreepBoardModel", "isMark", "(I)Z"⟩, 33), (⟨"CreepBoardModel", "isEpoch", "(I)Z"⟩, 33), (⟨"CreepBoardModel", "hasAntenna", "(I)Z"⟩, 33), (⟨"CreepBoardModel", "spot", "(II)I"⟩, 33), (⟨"CreepBoardModel", "isSide", "(I)Z"⟩, 33), (⟨"CreepBoardModel", "isCleared", "(II)Z"⟩, 33), (⟨"CreepBoardModel", "isLeftOut", "(II)Z"⟩, 33), (⟨"CreepBoardModel", "clear", "(III)J"⟩, 33), (⟨"CreepBoardModel", "withoutSteps", "(III)J"⟩, 33), (⟨"CreepBoardModel", "meanOf", "(III)J"⟩, 33), (⟨"CreepBoardModel", "manyOf", "(I)I"⟩, 33), (⟨"CreepBoardModel", "lowest", "(JJZ)J"⟩, 33)]
theorem lw_r2 : ∀ q ∈ lw_privs_2, lw_okq q := List.forall_mem_cons.mpr ⟨lw_p16, List.forall_mem_cons.mpr ⟨lw_p17, List.forall_mem_cons.mpr ⟨lw_p18, List.forall_mem_cons.mpr ⟨lw_p19, List.forall_mem_cons.mpr ⟨lw_p20, List.forall_mem_cons.mpr ⟨lw_p21, List.forall_mem_cons.mpr ⟨lw_p22, List.forall_mem_cons.mpr ⟨lw_p23, List.forall_mem_cons.mpr ⟨lw_p24, List.forall_mem_cons.mpr ⟨lw_p25, List.forall_mem_cons.mpr ⟨lw_p26, List.forall_mem_cons.mpr ⟨lw_p27, List.forall_mem_cons.mpr ⟨lw_p28, List.forall_mem_cons.mpr ⟨lw_p29, List.forall_mem_cons.mpr ⟨lw_p30, List.forall_mem_cons.mpr ⟨lw_p31, fun _ h => absurd h List.not_mem_nil⟩⟩⟩⟩⟩⟩⟩⟩⟩⟩⟩⟩⟩⟩⟩⟩
theorem lw_p32 : lw_okq (⟨"CreepBoardModel", "divisor", "(JJ)J"⟩, 33) := ⟨⟨by decide +kernel, by decide +kernel⟩, List.mem_of_getElem? (i := 1004) (by decide +kernel), List.mem_of_getElem? (i := 1200) (by decide +kernel), List.mem_of_getElem? (i := 1201) (by decide +kernel)⟩
theorem lw_p33 : lw_okq (⟨"CreepBoardModel", "firstOf", "(II)J"⟩, 33) := ⟨⟨by decide +kernel, by decide +kernel⟩, List.mem_of_getElem? (i := 1004) (by decide +kernel), List.mem_of_getElem? (i := 1212) (by decide +kernel), List.mem_of_getElem? (i := 1213) (by decide +kernel)⟩
theorem lw_p34 : lw_okq (⟨"CreepBoardModel", "isBlock", "(I)Z"⟩, 33) := ⟨⟨by decide +kernel, by decide +kernel⟩, List.mem_of_getElem? (i := 1004) (by decide +kernel), List.mem_of_getElem? (i := 1236) (by decide +kernel), List.mem_of_getElem? (i := 1237) (by decide +kernel)⟩
theorem lw_p35 : lw_okq (⟨"CreepBoardModel", "findBlocks", "()V"⟩, 33) := ⟨⟨by decide +kernel, by decide +kernel⟩, List.mem_of_getElem? (i := 1004) (by decide +kernel), List.mem_of_getElem? (i := 1244) (by decide +kernel), List.mem_of_getElem? (i := 1245) (by decide +kernel)⟩
theorem lw_p36 : lw_okq (⟨"CreepBoardModel", "findSlips", "()V"⟩, 33) := ⟨⟨by decide +kernel, by decide +kernel⟩, List.mem_of_getElem? (i := 1004) (by decide +kernel), List.mem_of_getElem? (i := 1264) (by decide +kernel), List.mem_of_getElem? (i := 1265) (by decide +kernel)⟩
theorem lw_p37 : lw_okq (⟨"CreepBoardModel", "doFit", "(III)Z"⟩, 33) := ⟨⟨by decide +kernel, by decide +kernel⟩, List.mem_of_getElem? (i := 1004) (by decide +kernel), List.mem_of_getElem? (i := 1268) (by decide +kernel), List.mem_of_getElem? (i := 1269) (by decide +kernel)⟩
theorem lw_p38 : lw_okq (⟨"CreepBoardModel", "findWrong", "()I"⟩, 33) := ⟨⟨by decide +kernel, by decide +kernel⟩, List.mem_of_getElem? (i := 1004) (by decide +kernel), List.mem_of_getElem? (i := 1292) (by decide +kernel), List.mem_of_getElem? (i := 1293) (by decide +kernel)⟩
theorem lw_p39 : lw_okq (⟨"CreepBoardModel", "ones", "(I)I"⟩, 33) := ⟨⟨by decide +kernel, by decide +kernel⟩, List.mem_of_getElem? (i := 1004) (by decide +kernel), List.mem_of_getElem? (i := 1296) (by decide +kernel), List.mem_of_getElem? (i := 1297) (by decide +kernel)⟩
theorem lw_p40 : lw_okq (⟨"CreepBoardModel", "agree", "(I)Z"⟩, 33) := ⟨⟨by decide +kernel, by decide +kernel⟩, List.mem_of_getElem? (i := 1004) (by decide +kernel), List.mem_of_getElem? (i := 1300) (by decide +kernel), List.mem_of_getElem? (i := 1301) (by decide +kernel)⟩
theorem lw_p41 : lw_okq (⟨"CreepBoardModel", "readingsOf", "(I)I"⟩, 33) := ⟨⟨by decide +kernel, by decide +kernel⟩, List.mem_of_getElem? (i := 1004) (by decide +kernel), List.mem_of_getElem? (i := 1312) (by decide +kernel), List.mem_of_getElem? (i := 1313) (by decide +kernel)⟩
theorem lw_p42 : lw_okq (⟨"CreepBoardModel", "isShelf", "(I)Z"⟩, 33) := ⟨⟨by decide +kernel, by decide +kernel⟩, List.mem_of_getElem? (i := 1004) (by decide +kernel), List.mem_of_getElem? (i := 1320) (by decide +kernel), List.mem_of_getElem? (i := 1321) (by decide +kernel)⟩
theorem lw_p43 : lw_okq (⟨"CreepBoardModel", "wipe", "(I)V"⟩, 33) := ⟨⟨by decide +kernel, by decide +kernel⟩, List.mem_of_getElem? (i := 1004) (by decide +kernel), List.mem_of_getElem? (i := 1324) (by decide +kernel), List.mem_of_getElem? (i := 1325) (by decide +kernel)⟩
def lw_privs_3 : List (MethodName × Nat) := [(⟨"CreepBoardModel", "divisor", "(JJ)J"⟩, 33), (⟨"CreepBoardModel", "firstOf", "(II)J"⟩, 33), (⟨"CreepBoardModel", "isBlock", "(I)Z"⟩, 33), (⟨"CreepBoardModel", "findBlocks", "()V"⟩, 33), (⟨"CreepBoardModel", "findSlips", "()V"⟩, 33), (⟨"CreepBoardModel", "doFit", "(III)Z"⟩, 33), (⟨"CreepBoardModel", "findWrong", "()I"⟩, 33), (⟨"CreepBoardModel", "ones", "(I)I"⟩, 33), (⟨"CreepBoardModel", "agree", "(I)Z"⟩, 33), (⟨"CreepBoardModel", "readingsOf", "(I)I"⟩, 33), (⟨"CreepBoardModel", "isShelf", "(I)Z"⟩, 33), (⟨"CreepBoardModel", "wipe", "(I)V"⟩, 33)]
theorem lw_r3 : ∀ q ∈ lw_privs_3, lw_okq q := List.forall_mem_cons.mpr ⟨lw_p32, List.forall_mem_cons.mpr ⟨lw_p33, List.forall_mem_cons.mpr ⟨lw_p34, List.forall_mem_cons.mpr ⟨lw_p35, List.forall_mem_cons.mpr ⟨lw_p36, List.forall_mem_cons.mpr ⟨lw_p37, List.forall_mem_cons.mpr ⟨lw_p38, List.forall_mem_cons.mpr ⟨lw_p39, List.forall_mem_cons.mpr ⟨lw_p40, List.forall_mem_cons.mpr ⟨lw_p41, List.forall_mem_cons.mpr ⟨lw_p42, List.forall_mem_cons.mpr ⟨lw_p43, fun _ h => absurd h List.not_mem_nil⟩⟩⟩⟩⟩⟩⟩⟩⟩⟩⟩⟩
def lw_privs : List (MethodName × Nat) := lw_privs_1 ++ (lw_privs_2 ++ (lw_privs_3))
def lw_tbl : List Cond := k2_sels lw_privs ++ tables_1
theorem lw_privs_ok : ∀ q ∈ lw_privs, lw_okq q := by
  show ∀ q ∈ lw_privs_1 ++ (lw_privs_2 ++ (lw_privs_3)), lw_okq q
  exact List.forall_mem_append.mpr ⟨lw_r1, List.forall_mem_append.mpr ⟨lw_r2, lw_r3⟩⟩
end
section
/-! ===== BEGIN words of one list among another's, by their places ===== -/
theorem goodIn_r {big : List Cond} (ws : List Cond) (ps : List Nat) (hp : ws = ps.filterMap (fun i => big[i]?)) (h : ws.all goodWord = true) : GoodIn big ws := by
  intro w hw
  have h1 := List.all_eq_true.mp h w hw
  rw [hp] at hw
  obtain ⟨i, -, hi⟩ := List.mem_filterMap.mp hw
  have hm : w ∈ big := by first | exact List.mem_of_getElem? hi | exact List.getElem?_mem hi
  exact ⟨hm, good_of_word h1⟩
theorem goodIn_app {big a b : List Cond} (ha : GoodIn big a) (hb : GoodIn big b) : GoodIn big (a ++ b) := fun w h => (List.mem_append.mp h).elim (ha w) (hb w)
theorem goodIn_ca {big a b : List Cond} {c : Cond} (ha : GoodIn big (c :: a)) (hb : GoodIn big b) : GoodIn big (c :: (a ++ b)) := fun w h => (List.mem_cons.mp h).elim (fun e => ha w (List.mem_cons.mpr (Or.inl e))) (fun h => (List.mem_append.mp h).elim (fun h => ha w (List.mem_cons.mpr (Or.inr h))) (hb w))
theorem goodIn_sub {big ws : List Cond} (hm : ∀ w ∈ ws, w ∈ big) (h : ws.all goodWord = true) : GoodIn big ws := fun w hw => ⟨hm w hw, good_of_word (List.all_eq_true.mp h w hw)⟩
/-! ===== END ===== -/
def RX0 : String := "CreepBoard$BlockFinder"
def TX0 : u_T := fun k => match k with
  | 0 => ("CreepBoard$BlockFinder", "turns", "[Z", true)
  | 1 => ("CreepBoard$BlockFinder", "fewest", "[I", true)
  | 2 => ("CreepBoard$BlockFinder", "leastBlock", "[I", true)
  | 3 => ("CreepBoard$BlockFinder", "blockOfMark", "[I", true)
  | 4 => ("CreepBoard$BlockFinder", "blockCount", "I", false)
  | _ => ("CreepBoard$BlockFinder", "known", "Z", false)
def tyX0 : Nat → FieldType := fun k => match k with
  | 0 => .array .boolean
  | 1 => .array .int
  | 2 => .array .int
  | 3 => .array .int
  | 4 => .int
  | _ => .boolean
abbrev wsX00 : List Cond := u_ws RX0 TX0 6
theorem nmX0 : ∀ a, a < 6 → ∀ b, b < 6 → a ≠ b → (TX0 a).2.1 ≠ (TX0 b).2.1 := by decide +kernel
theorem tyX0_ok : ∀ k, k < 6 → parseFieldDescriptor (TX0 k).2.2.1 = some (tyX0 k) := by decide +kernel
abbrev cX0_init : ByteArray := prog_2_method_1_code
def yX0_init : MethodName := ⟨RX0, "<init>", "()V"⟩
abbrev cX0_forget : ByteArray := prog_2_method_2_code
def yX0_forget : MethodName := ⟨RX0, "forget", "()V"⟩
abbrev cX0_blockCount : ByteArray := prog_2_method_3_code
def yX0_blockCount : MethodName := ⟨RX0, "blockCount", "()I"⟩
abbrev cX0_blockWith : ByteArray := prog_2_method_4_code
def yX0_blockWith : MethodName := ⟨RX0, "blockWith", "(I)I"⟩
abbrev cX0_find : ByteArray := prog_2_method_5_code
def yX0_find : MethodName := ⟨RX0, "find", "([LCreepBoard$Mark;I)V"⟩
abbrev cX0_turnAsOne : ByteArray := prog_2_method_6_code
def yX0_turnAsOne : MethodName := ⟨RX0, "turnAsOne", "([LCreepBoard$Mark;I)Z"⟩
abbrev cX0_tellTurns : ByteArray := prog_2_method_7_code
def yX0_tellTurns : MethodName := ⟨RX0, "tellTurns", "([LCreepBoard$Mark;I)V"⟩
abbrev cX0_tellFewest : ByteArray := prog_2_method_8_code
def yX0_tellFewest : MethodName := ⟨RX0, "tellFewest", "(I)V"⟩
abbrev cX0_giveOut : ByteArray := prog_2_method_9_code
def yX0_giveOut : MethodName := ⟨RX0, "giveOut", "(II)V"⟩
abbrev cX0_setBlock : ByteArray := prog_2_method_10_code
def yX0_setBlock : MethodName := ⟨RX0, "setBlock", "(I)V"⟩
def RX1 : String := "CreepBoard$Buoy"
def TX1 : u_T := fun k => match k with
  | 0 => ("CreepBoard$Mark", "number", "I", true)
  | 1 => ("CreepBoard$Mark", "x", "I", true)
  | 2 => ("CreepBoard$Mark", "y", "I", true)
  | 3 => ("CreepBoard$Mark", "present", "[Z", true)
  | 4 => ("CreepBoard$Mark", "readings", "[[I", true)
  | 5 => ("CreepBoard$Mark", "stepEpochs", "[I", true)
  | 6 => ("CreepBoard$Mark", "stepSizes", "[[I", true)
  | 7 => ("CreepBoard$Mark", "speeds", "[I", true)
  | 8 => ("CreepBoard$Mark", "greens", "[I", true)
  | 9 => ("CreepBoard$Mark", "readingCount", "I", false)
  | _ => ("CreepBoard$Mark", "stepCount", "I", false)
def tyX1 : Nat → FieldType := fun k => match k with
  | 0 => .int
  | 1 => .int
  | 2 => .int
  | 3 => .array .boolean
  | 4 => .array (.array .int)
  | 5 => .array .int
  | 6 => .array (.array .int)
  | 7 => .array .int
  | 8 => .array .int
  | 9 => .int
  | _ => .int
abbrev wsX10 : List Cond := u_ws RX1 TX1 11
theorem nmX1 : ∀ a, a < 11 → ∀ b, b < 11 → a ≠ b → (TX1 a).2.1 ≠ (TX1 b).2.1 := by decide +kernel
theorem tyX1_ok : ∀ k, k < 11 → parseFieldDescriptor (TX1 k).2.2.1 = some (tyX1 k) := by decide +kernel
abbrev cX1_init : ByteArray := prog_3_method_1_code
def yX1_init : MethodName := ⟨RX1, "<init>", "(III)V"⟩
abbrev cX1_clearedValue : ByteArray := prog_3_method_2_code
def yX1_clearedValue : MethodName := ⟨RX1, "clearedValue", "(II)J"⟩
abbrev cX1_seasonMean : ByteArray := prog_3_method_3_code
def yX1_seasonMean : MethodName := ⟨RX1, "seasonMean", "(II)J"⟩
abbrev cX1_heft : ByteArray := prog_3_method_4_code
def yX1_heft : MethodName := ⟨RX1, "heft", "()I"⟩
def RX2 : String := "CreepBoard$Levels"
def TX2 : u_T := fun k => match k with
  | 0 => ("CreepBoard$Levels", "from", "[I", true)
  | 1 => ("CreepBoard$Levels", "to", "[I", true)
  | 2 => ("CreepBoard$Levels", "rise", "[I", true)
  | 3 => ("CreepBoard$Levels", "lineCount", "I", false)
  | 4 => ("CreepBoard$Levels", "group", "[[I", true)
  | 5 => ("CreepBoard$Levels", "level", "[[I", true)
  | 6 => ("CreepBoard$Levels", "bestGroup", "[I", true)
  | 7 => ("CreepBoard$Levels", "bestLevel", "[I", true)
  | 8 => ("CreepBoard$Levels", "bestWrong", "I", false)
  | 9 => ("CreepBoard$Levels", "bestCount", "I", false)
  | _ => ("CreepBoard$Levels", "known", "Z", false)
def tyX2 : Nat → FieldType := fun k => match k with
  | 0 => .array .int
  | 1 => .array .int
  | 2 => .array .int
  | 3 => .int
  | 4 => .array (.array .int)
  | 5 => .array (.array .int)
  | 6 => .array .int
  | 7 => .array .int
  | 8 => .int
  | 9 => .int
  | _ => .boolean
abbrev wsX20 : List Cond := u_ws RX2 TX2 11
theorem nmX2 : ∀ a, a < 11 → ∀ b, b < 11 → a ≠ b → (TX2 a).2.1 ≠ (TX2 b).2.1 := by decide +kernel
theorem tyX2_ok : ∀ k, k < 11 → parseFieldDescriptor (TX2 k).2.2.1 = some (tyX2 k) := by decide +kernel
abbrev cX2_init : ByteArray := prog_4_method_1_code
def yX2_init : MethodName := ⟨RX2, "<init>", "()V"⟩
abbrev cX2_lineCount : ByteArray := prog_4_method_2_code
def yX2_lineCount : MethodName := ⟨RX2, "lineCount", "()I"⟩
abbrev cX2_addLine : ByteArray := prog_4_method_3_code
def yX2_addLine : MethodName := ⟨RX2, "addLine", "(III)Z"⟩
abbrev cX2_dropLine : ByteArray := prog_4_method_4_code
def yX2_dropLine : MethodName := ⟨RX2, "dropLine", "()Z"⟩
abbrev cX2_wrongLines : ByteArray := prog_4_method_5_code
def yX2_wrongLines : MethodName := ⟨RX2, "wrongLines", "()I"⟩
abbrev cX2_leadsTo : ByteArray := prog_4_method_6_code
def yX2_leadsTo : MethodName := ⟨RX2, "leadsTo", "(I)Z"⟩
abbrev cX2_heightOf : ByteArray := prog_4_method_7_code
def yX2_heightOf : MethodName := ⟨RX2, "heightOf", "(I)J"⟩
abbrev cX2_find : ByteArray := prog_4_method_8_code
def yX2_find : MethodName := ⟨RX2, "find", "()V"⟩
abbrev cX2_judge : ByteArray := prog_4_method_9_code
def yX2_judge : MethodName := ⟨RX2, "judge", "(IIII)V"⟩
abbrev cX2_join : ByteArray := prog_4_method_10_code
def yX2_join : MethodName := ⟨RX2, "join", "(II)V"⟩
def RX3 : String := "CreepBoard$Mark"
def TX3 : u_T := fun k => match k with
  | 0 => ("CreepBoard$Mark", "number", "I", true)
  | 1 => ("CreepBoard$Mark", "x", "I", true)
  | 2 => ("CreepBoard$Mark", "y", "I", true)
  | 3 => ("CreepBoard$Mark", "present", "[Z", true)
  | 4 => ("CreepBoard$Mark", "readings", "[[I", true)
  | 5 => ("CreepBoard$Mark", "stepEpochs", "[I", true)
  | 6 => ("CreepBoard$Mark", "stepSizes", "[[I", true)
  | 7 => ("CreepBoard$Mark", "speeds", "[I", true)
  | 8 => ("CreepBoard$Mark", "greens", "[I", true)
  | 9 => ("CreepBoard$Mark", "readingCount", "I", false)
  | _ => ("CreepBoard$Mark", "stepCount", "I", false)
def tyX3 : Nat → FieldType := fun k => match k with
  | 0 => .int
  | 1 => .int
  | 2 => .int
  | 3 => .array .boolean
  | 4 => .array (.array .int)
  | 5 => .array .int
  | 6 => .array (.array .int)
  | 7 => .array .int
  | 8 => .array .int
  | 9 => .int
  | _ => .int
abbrev wsX30 : List Cond := u_ws RX3 TX3 11
theorem nmX3 : ∀ a, a < 11 → ∀ b, b < 11 → a ≠ b → (TX3 a).2.1 ≠ (TX3 b).2.1 := by decide +kernel
theorem tyX3_ok : ∀ k, k < 11 → parseFieldDescriptor (TX3 k).2.2.1 = some (tyX3 k) := by decide +kernel
abbrev cX3_init : ByteArray := prog_5_method_1_code
def yX3_init : MethodName := ⟨RX3, "<init>", "(III)V"⟩
abbrev cX3_number : ByteArray := prog_5_method_2_code
def yX3_number : MethodName := ⟨RX3, "number", "()I"⟩
abbrev cX3_placeX : ByteArray := prog_5_method_3_code
def yX3_placeX : MethodName := ⟨RX3, "placeX", "()I"⟩
abbrev cX3_placeY : ByteArray := prog_5_method_4_code
def yX3_placeY : MethodName := ⟨RX3, "placeY", "()I"⟩
abbrev cX3_readingCount : ByteArray := prog_5_method_5_code
def yX3_readingCount : MethodName := ⟨RX3, "readingCount", "()I"⟩
abbrev cX3_stepCount : ByteArray := prog_5_method_6_code
def yX3_stepCount : MethodName := ⟨RX3, "stepCount", "()I"⟩
abbrev cX3_speed : ByteArray := prog_5_method_7_code
def yX3_speed : MethodName := ⟨RX3, "speed", "(I)I"⟩
abbrev cX3_setSpeed : ByteArray := prog_5_method_8_code
def yX3_setSpeed : MethodName := ⟨RX3, "setSpeed", "(II)V"⟩
abbrev cX3_greenOf : ByteArray := prog_5_method_9_code
def yX3_greenOf : MethodName := ⟨RX3, "greenOf", "(I)I"⟩
abbrev cX3_setGreen : ByteArray := prog_5_method_10_code
def yX3_setGreen : MethodName := ⟨RX3, "setGreen", "(II)V"⟩
abbrev cX3_hasReading : ByteArray := prog_5_method_11_code
def yX3_hasReading : MethodName := ⟨RX3, "hasReading", "(I)Z"⟩
abbrev cX3_rawValue : ByteArray := prog_5_method_12_code
def yX3_rawValue : MethodName := ⟨RX3, "rawValue", "(II)I"⟩
abbrev cX3_putReading : ByteArray := prog_5_method_13_code
def yX3_putReading : MethodName := ⟨RX3, "putReading", "(III)Z"⟩
abbrev cX3_dropReading : ByteArray := prog_5_method_14_code
def yX3_dropReading : MethodName := ⟨RX3, "dropReading", "(I)Z"⟩
abbrev cX3_addStep : ByteArray := prog_5_method_15_code
def yX3_addStep : MethodName := ⟨RX3, "addStep", "(III)Z"⟩
abbrev cX3_isCleared : ByteArray := prog_5_method_16_code
def yX3_isCleared : MethodName := ⟨RX3, "isCleared", "(I)Z"⟩
abbrev cX3_firstCleared : ByteArray := prog_5_method_17_code
def yX3_firstCleared : MethodName := ⟨RX3, "firstCleared", "(I)I"⟩
abbrev cX3_clearFrom : ByteArray := prog_5_method_18_code
def yX3_clearFrom : MethodName := ⟨RX3, "clearFrom", "()I"⟩
abbrev cX3_clearedValue : ByteArray := prog_5_method_19_code
def yX3_clearedValue : MethodName := ⟨RX3, "clearedValue", "(II)J"⟩
abbrev cX3_heft : ByteArray := prog_5_method_20_code
def yX3_heft : MethodName := ⟨RX3, "heft", "()I"⟩
abbrev cX3_fail : ByteArray := prog_5_method_21_code
def yX3_fail : MethodName := ⟨RX3, "fail", "()V"⟩
def RX4 : String := "CreepBoard$Receiver"
def TX4 : u_T := fun k => match k with
  | 0 => ("CreepBoard$Mark", "number", "I", true)
  | 1 => ("CreepBoard$Mark", "x", "I", true)
  | 2 => ("CreepBoard$Mark", "y", "I", true)
  | 3 => ("CreepBoard$Mark", "present", "[Z", true)
  | 4 => ("CreepBoard$Mark", "readings", "[[I", true)
  | 5 => ("CreepBoard$Mark", "stepEpochs", "[I", true)
  | 6 => ("CreepBoard$Mark", "stepSizes", "[[I", true)
  | 7 => ("CreepBoard$Mark", "speeds", "[I", true)
  | 8 => ("CreepBoard$Mark", "greens", "[I", true)
  | 9 => ("CreepBoard$Mark", "readingCount", "I", false)
  | 10 => ("CreepBoard$Mark", "stepCount", "I", false)
  | 11 => ("CreepBoard$Receiver", "antennaEpoch", "I", false)
  | _ => ("CreepBoard$Receiver", "antennaOffset", "I", false)
def tyX4 : Nat → FieldType := fun k => match k with
  | 0 => .int
  | 1 => .int
  | 2 => .int
  | 3 => .array .boolean
  | 4 => .array (.array .int)
  | 5 => .array .int
  | 6 => .array (.array .int)
  | 7 => .array .int
  | 8 => .array .int
  | 9 => .int
  | 10 => .int
  | 11 => .int
  | _ => .int
abbrev wsX40 : List Cond := u_ws RX4 TX4 13
theorem nmX4 : ∀ a, a < 13 → ∀ b, b < 13 → a ≠ b → (TX4 a).2.1 ≠ (TX4 b).2.1 := by decide +kernel
theorem tyX4_ok : ∀ k, k < 13 → parseFieldDescriptor (TX4 k).2.2.1 = some (tyX4 k) := by decide +kernel
abbrev cX4_init : ByteArray := prog_6_method_1_code
def yX4_init : MethodName := ⟨RX4, "<init>", "(III)V"⟩
abbrev cX4_changeAntenna : ByteArray := prog_6_method_2_code
def yX4_changeAntenna : MethodName := ⟨RX4, "changeAntenna", "(II)I"⟩
abbrev cX4_clearedValue : ByteArray := prog_6_method_3_code
def yX4_clearedValue : MethodName := ⟨RX4, "clearedValue", "(II)J"⟩
abbrev cX4_heft : ByteArray := prog_6_method_4_code
def yX4_heft : MethodName := ⟨RX4, "heft", "()I"⟩
abbrev cX4_fail : ByteArray := prog_6_method_5_code
def yX4_fail : MethodName := ⟨RX4, "fail", "()V"⟩
def RX5 : String := "CreepBoard$Series"
def TX5 : u_T := fun k => match k with
  | 0 => ("CreepBoard$Series", "epochs", "[I", true)
  | 1 => ("CreepBoard$Series", "values", "[J", true)
  | _ => ("CreepBoard$Series", "size", "I", false)
def tyX5 : Nat → FieldType := fun k => match k with
  | 0 => .array .int
  | 1 => .array .long
  | _ => .int
abbrev wsX50 : List Cond := u_ws RX5 TX5 3
theorem nmX5 : ∀ a, a < 3 → ∀ b, b < 3 → a ≠ b → (TX5 a).2.1 ≠ (TX5 b).2.1 := by decide +kernel
theorem tyX5_ok : ∀ k, k < 3 → parseFieldDescriptor (TX5 k).2.2.1 = some (tyX5 k) := by decide +kernel
abbrev cX5_init : ByteArray := prog_7_method_1_code
def yX5_init : MethodName := ⟨RX5, "<init>", "()V"⟩
abbrev cX5_gather : ByteArray := prog_7_method_2_code
def yX5_gather : MethodName := ⟨RX5, "gather", "(LCreepBoard$Mark;I)V"⟩
abbrev cX5_size : ByteArray := prog_7_method_3_code
def yX5_size : MethodName := ⟨RX5, "size", "()I"⟩
abbrev cX5_epochAt : ByteArray := prog_7_method_4_code
def yX5_epochAt : MethodName := ⟨RX5, "epochAt", "(I)I"⟩
abbrev cX5_valueAt : ByteArray := prog_7_method_5_code
def yX5_valueAt : MethodName := ⟨RX5, "valueAt", "(I)J"⟩
abbrev cX5_rateAbove : ByteArray := prog_7_method_6_code
def yX5_rateAbove : MethodName := ⟨RX5, "rateAbove", "()J"⟩
abbrev cX5_rateBelow : ByteArray := prog_7_method_7_code
def yX5_rateBelow : MethodName := ⟨RX5, "rateBelow", "()J"⟩
abbrev cX5_jumpEpoch : ByteArray := prog_7_method_8_code
def yX5_jumpEpoch : MethodName := ⟨RX5, "jumpEpoch", "()I"⟩
def RX6 : String := "CreepBoard$Shelf"
def TX6 : u_T := fun k => match k with
  | 0 => ("CreepBoard$Shelf", "row", "[J", true)
  | 1 => ("CreepBoard$Shelf", "holds", "I", false)
  | 2 => ("CreepBoard$Shelf", "size", "I", false)
  | _ => ("CreepBoard$Shelf", "mark", "LCreepBoard$Mark;", false)
def tyX6 : Nat → FieldType := fun k => match k with
  | 0 => .array .long
  | 1 => .int
  | 2 => .int
  | _ => .object "CreepBoard$Mark"
abbrev wsX60 : List Cond := u_ws RX6 TX6 4
theorem nmX6 : ∀ a, a < 4 → ∀ b, b < 4 → a ≠ b → (TX6 a).2.1 ≠ (TX6 b).2.1 := by decide +kernel
theorem tyX6_ok : ∀ k, k < 4 → parseFieldDescriptor (TX6 k).2.2.1 = some (tyX6 k) := by decide +kernel
abbrev cX6_init : ByteArray := prog_8_method_1_code
def yX6_init : MethodName := ⟨RX6, "<init>", "()V"⟩
abbrev cX6_holds : ByteArray := prog_8_method_2_code
def yX6_holds : MethodName := ⟨RX6, "holds", "()I"⟩
abbrev cX6_holdsRow : ByteArray := prog_8_method_3_code
def yX6_holdsRow : MethodName := ⟨RX6, "holdsRow", "()Z"⟩
abbrev cX6_size : ByteArray := prog_8_method_4_code
def yX6_size : MethodName := ⟨RX6, "size", "()I"⟩
abbrev cX6_heldMark : ByteArray := prog_8_method_5_code
def yX6_heldMark : MethodName := ⟨RX6, "heldMark", "()LCreepBoard$Mark;"⟩
abbrev cX6_valueAt : ByteArray := prog_8_method_6_code
def yX6_valueAt : MethodName := ⟨RX6, "valueAt", "(I)J"⟩
abbrev cX6_clear : ByteArray := prog_8_method_7_code
def yX6_clear : MethodName := ⟨RX6, "clear", "()V"⟩
abbrev cX6_holdMark : ByteArray := prog_8_method_8_code
def yX6_holdMark : MethodName := ⟨RX6, "holdMark", "(LCreepBoard$Mark;)V"⟩
abbrev cX6_holdNoughts : ByteArray := prog_8_method_9_code
def yX6_holdNoughts : MethodName := ⟨RX6, "holdNoughts", "(II)V"⟩
abbrev cX6_holdSeries : ByteArray := prog_8_method_10_code
def yX6_holdSeries : MethodName := ⟨RX6, "holdSeries", "(LCreepBoard$Series;I)V"⟩
abbrev cX6_hasPlaces : ByteArray := prog_8_method_11_code
def yX6_hasPlaces : MethodName := ⟨RX6, "hasPlaces", "(II)Z"⟩
abbrev cX6_copyPlaces : ByteArray := prog_8_method_12_code
def yX6_copyPlaces : MethodName := ⟨RX6, "copyPlaces", "(ILCreepBoard$Shelf;II)V"⟩
def RX7 : String := "CreepBoard$SlipFinder"
def TX7 : u_T := fun k => match k with
  | 0 => ("CreepBoard$SlipFinder", "least", "[I", true)
  | 1 => ("CreepBoard$SlipFinder", "greatest", "[I", true)
  | 2 => ("CreepBoard$SlipFinder", "fitCount", "I", false)
  | 3 => ("CreepBoard$SlipFinder", "low", "I", false)
  | 4 => ("CreepBoard$SlipFinder", "high", "I", false)
  | _ => ("CreepBoard$SlipFinder", "known", "Z", false)
def tyX7 : Nat → FieldType := fun k => match k with
  | 0 => .array .int
  | 1 => .array .int
  | 2 => .int
  | 3 => .int
  | 4 => .int
  | _ => .boolean
abbrev wsX70 : List Cond := u_ws RX7 TX7 6
theorem nmX7 : ∀ a, a < 6 → ∀ b, b < 6 → a ≠ b → (TX7 a).2.1 ≠ (TX7 b).2.1 := by decide +kernel
theorem tyX7_ok : ∀ k, k < 6 → parseFieldDescriptor (TX7 k).2.2.1 = some (tyX7 k) := by decide +kernel
abbrev cX7_init : ByteArray := prog_9_method_1_code
def yX7_init : MethodName := ⟨RX7, "<init>", "()V"⟩
abbrev cX7_forget : ByteArray := prog_9_method_2_code
def yX7_forget : MethodName := ⟨RX7, "forget", "()V"⟩
abbrev cX7_fitCount : ByteArray := prog_9_method_3_code
def yX7_fitCount : MethodName := ⟨RX7, "fitCount", "()I"⟩
abbrev cX7_leastOf : ByteArray := prog_9_method_4_code
def yX7_leastOf : MethodName := ⟨RX7, "leastOf", "(I)I"⟩
abbrev cX7_greatestOf : ByteArray := prog_9_method_5_code
def yX7_greatestOf : MethodName := ⟨RX7, "greatestOf", "(I)I"⟩
abbrev cX7_find : ByteArray := prog_9_method_6_code
def yX7_find : MethodName := ⟨RX7, "find", "([LCreepBoard$Mark;II)V"⟩
abbrev cX7_narrow : ByteArray := prog_9_method_7_code
def yX7_narrow : MethodName := ⟨RX7, "narrow", "(III)V"⟩
abbrev cX7_takeIn : ByteArray := prog_9_method_8_code
def yX7_takeIn : MethodName := ⟨RX7, "takeIn", "(II)V"⟩
abbrev cX7_widen : ByteArray := prog_9_method_9_code
def yX7_widen : MethodName := ⟨RX7, "widen", "(III)V"⟩
def RX8 : String := "CreepBoard$Standing"
def TX8 : u_T := fun k => match k with
  | 0 => ("CreepBoard$Receiver", "antennaEpoch", "I", false)
  | 1 => ("CreepBoard$Receiver", "antennaOffset", "I", false)
  | 2 => ("CreepBoard$Mark", "number", "I", true)
  | 3 => ("CreepBoard$Mark", "x", "I", true)
  | 4 => ("CreepBoard$Mark", "y", "I", true)
  | 5 => ("CreepBoard$Mark", "present", "[Z", true)
  | 6 => ("CreepBoard$Mark", "readings", "[[I", true)
  | 7 => ("CreepBoard$Mark", "stepEpochs", "[I", true)
  | 8 => ("CreepBoard$Mark", "stepSizes", "[[I", true)
  | 9 => ("CreepBoard$Mark", "speeds", "[I", true)
  | 10 => ("CreepBoard$Mark", "greens", "[I", true)
  | 11 => ("CreepBoard$Mark", "readingCount", "I", false)
  | _ => ("CreepBoard$Mark", "stepCount", "I", false)
def tyX8 : Nat → FieldType := fun k => match k with
  | 0 => .int
  | 1 => .int
  | 2 => .int
  | 3 => .int
  | 4 => .int
  | 5 => .array .boolean
  | 6 => .array (.array .int)
  | 7 => .array .int
  | 8 => .array (.array .int)
  | 9 => .array .int
  | 10 => .array .int
  | 11 => .int
  | _ => .int
abbrev wsX80 : List Cond := u_ws RX8 TX8 13
theorem nmX8 : ∀ a, a < 13 → ∀ b, b < 13 → a ≠ b → (TX8 a).2.1 ≠ (TX8 b).2.1 := by decide +kernel
theorem tyX8_ok : ∀ k, k < 13 → parseFieldDescriptor (TX8 k).2.2.1 = some (tyX8 k) := by decide +kernel
abbrev cX8_init : ByteArray := prog_10_method_1_code
def yX8_init : MethodName := ⟨RX8, "<init>", "(III)V"⟩
abbrev cX8_clearFrom : ByteArray := prog_10_method_2_code
def yX8_clearFrom : MethodName := ⟨RX8, "clearFrom", "()I"⟩
abbrev cX8_heft : ByteArray := prog_10_method_3_code
def yX8_heft : MethodName := ⟨RX8, "heft", "()I"⟩
def RX9 : String := "CreepBoard"
def TX9 : u_T := fun k => match k with
  | 0 => ("CreepBoard", "marks", "[LCreepBoard$Mark;", true)
  | 1 => ("CreepBoard", "series", "LCreepBoard$Series;", true)
  | 2 => ("CreepBoard", "blockFinder", "LCreepBoard$BlockFinder;", true)
  | 3 => ("CreepBoard", "slipFinder", "LCreepBoard$SlipFinder;", true)
  | 4 => ("CreepBoard", "levels", "LCreepBoard$Levels;", true)
  | 5 => ("CreepBoard", "shelves", "[LCreepBoard$Shelf;", true)
  | 6 => ("CreepBoard", "markCount", "I", false)
  | _ => ("CreepBoard", "tolerance", "I", false)
def tyX9 : Nat → FieldType := fun k => match k with
  | 0 => .array (.object "CreepBoard$Mark")
  | 1 => .object "CreepBoard$Series"
  | 2 => .object "CreepBoard$BlockFinder"
  | 3 => .object "CreepBoard$SlipFinder"
  | 4 => .object "CreepBoard$Levels"
  | 5 => .array (.object "CreepBoard$Shelf")
  | 6 => .int
  | _ => .int
abbrev wsX90 : List Cond := u_ws RX9 TX9 8
theorem nmX9 : ∀ a, a < 8 → ∀ b, b < 8 → a ≠ b → (TX9 a).2.1 ≠ (TX9 b).2.1 := by decide +kernel
theorem tyX9_ok : ∀ k, k < 8 → parseFieldDescriptor (TX9 k).2.2.1 = some (tyX9 k) := by decide +kernel
abbrev cX9_init : ByteArray := prog_1_method_1_code
def yX9_init : MethodName := ⟨RX9, "<init>", "()V"⟩
abbrev cX9_mark : ByteArray := prog_1_method_2_code
def yX9_mark : MethodName := ⟨RX9, "mark", "(III)I"⟩
abbrev cX9_antenna : ByteArray := prog_1_method_3_code
def yX9_antenna : MethodName := ⟨RX9, "antenna", "(III)I"⟩
abbrev cX9_read : ByteArray := prog_1_method_4_code
def yX9_read : MethodName := ⟨RX9, "read", "(IIII)I"⟩
abbrev cX9_gap : ByteArray := prog_1_method_5_code
def yX9_gap : MethodName := ⟨RX9, "gap", "(II)I"⟩
abbrev cX9_step : ByteArray := prog_1_method_6_code
def yX9_step : MethodName := ⟨RX9, "step", "(IIII)I"⟩
abbrev cX9_cleared : ByteArray := prog_1_method_7_code
def yX9_cleared : MethodName := ⟨RX9, "cleared", "(III)J"⟩
abbrev cX9_many : ByteArray := prog_1_method_8_code
def yX9_many : MethodName := ⟨RX9, "many", "(I)I"⟩
abbrev cX9_rate : ByteArray := prog_1_method_9_code
def yX9_rate : MethodName := ⟨RX9, "rate", "(IIZ)J"⟩
abbrev cX9_jump : ByteArray := prog_1_method_10_code
def yX9_jump : MethodName := ⟨RX9, "jump", "(II)I"⟩
abbrev cX9_common : ByteArray := prog_1_method_11_code
def yX9_common : MethodName := ⟨RX9, "common", "(II)J"⟩
abbrev cX9_velocity : ByteArray := prog_1_method_12_code
def yX9_velocity : MethodName := ⟨RX9, "velocity", "(III)I"⟩
abbrev cX9_moves : ByteArray := prog_1_method_13_code
def yX9_moves : MethodName := ⟨RX9, "moves", "(II)J"⟩
abbrev cX9_frame : ByteArray := prog_1_method_14_code
def yX9_frame : MethodName := ⟨RX9, "frame", "(III)I"⟩
abbrev cX9_strain : ByteArray := prog_1_method_15_code
def yX9_strain : MethodName := ⟨RX9, "strain", "(IIIIZ)J"⟩
abbrev cX9_block : ByteArray := prog_1_method_16_code
def yX9_block : MethodName := ⟨RX9, "block", "(I)I"⟩
abbrev cX9_blocks : ByteArray := prog_1_method_17_code
def yX9_blocks : MethodName := ⟨RX9, "blocks", "()I"⟩
abbrev cX9_of : ByteArray := prog_1_method_18_code
def yX9_of : MethodName := ⟨RX9, "of", "(I)I"⟩
abbrev cX9_green : ByteArray := prog_1_method_19_code
def yX9_green : MethodName := ⟨RX9, "green", "(III)I"⟩
abbrev cX9_tolerance : ByteArray := prog_1_method_20_code
def yX9_tolerance : MethodName := ⟨RX9, "tolerance", "(I)I"⟩
abbrev cX9_fits : ByteArray := prog_1_method_21_code
def yX9_fits : MethodName := ⟨RX9, "fits", "()I"⟩
abbrev cX9_slip : ByteArray := prog_1_method_22_code
def yX9_slip : MethodName := ⟨RX9, "slip", "(IZ)I"⟩
abbrev cX9_locked : ByteArray := prog_1_method_23_code
def yX9_locked : MethodName := ⟨RX9, "locked", "()I"⟩
abbrev cX9_line : ByteArray := prog_1_method_24_code
def yX9_line : MethodName := ⟨RX9, "line", "(III)I"⟩
abbrev cX9_unline : ByteArray := prog_1_method_25_code
def yX9_unline : MethodName := ⟨RX9, "unline", "()I"⟩
abbrev cX9_wrong : ByteArray := prog_1_method_26_code
def yX9_wrong : MethodName := ⟨RX9, "wrong", "(I)I"⟩
abbrev cX9_height : ByteArray := prog_1_method_27_code
def yX9_height : MethodName := ⟨RX9, "height", "(I)J"⟩
abbrev cX9_count : ByteArray := prog_1_method_28_code
def yX9_count : MethodName := ⟨RX9, "count", "(I)I"⟩
abbrev cX9_keep : ByteArray := prog_1_method_29_code
def yX9_keep : MethodName := ⟨RX9, "keep", "(III)I"⟩
abbrev cX9_make : ByteArray := prog_1_method_30_code
def yX9_make : MethodName := ⟨RX9, "make", "(III)I"⟩
abbrev cX9_element : ByteArray := prog_1_method_31_code
def yX9_element : MethodName := ⟨RX9, "element", "(II)J"⟩
abbrev cX9_copy : ByteArray := prog_1_method_32_code
def yX9_copy : MethodName := ⟨RX9, "copy", "(IIIII)I"⟩
abbrev cX9_weight : ByteArray := prog_1_method_33_code
def yX9_weight : MethodName := ⟨RX9, "weight", "(I)I"⟩
abbrev cX9_toss : ByteArray := prog_1_method_34_code
def yX9_toss : MethodName := ⟨RX9, "toss", "(I)I"⟩
abbrev cX9_within : ByteArray := prog_1_method_35_code
def yX9_within : MethodName := ⟨RX9, "within", "(II)Z"⟩
abbrev cX9_isEpoch : ByteArray := prog_1_method_36_code
def yX9_isEpoch : MethodName := ⟨RX9, "isEpoch", "(I)Z"⟩
abbrev cX9_isSide : ByteArray := prog_1_method_37_code
def yX9_isSide : MethodName := ⟨RX9, "isSide", "(I)Z"⟩
abbrev cX9_isCut : ByteArray := prog_1_method_38_code
def yX9_isCut : MethodName := ⟨RX9, "isCut", "(I)Z"⟩
abbrev cX9_markAt : ByteArray := prog_1_method_39_code
def yX9_markAt : MethodName := ⟨RX9, "markAt", "(I)LCreepBoard$Mark;"⟩
abbrev cX9_shelfAt : ByteArray := prog_1_method_40_code
def yX9_shelfAt : MethodName := ⟨RX9, "shelfAt", "(I)LCreepBoard$Shelf;"⟩
abbrev cX9_markOfKind : ByteArray := prog_1_method_41_code
def yX9_markOfKind : MethodName := ⟨RX9, "markOfKind", "(IIII)LCreepBoard$Mark;"⟩
abbrev cX9_forgetMotion : ByteArray := prog_1_method_42_code
def yX9_forgetMotion : MethodName := ⟨RX9, "forgetMotion", "()V"⟩
abbrev cX9_eastInFrame : ByteArray := prog_1_method_43_code
def yX9_eastInFrame : MethodName := ⟨RX9, "eastInFrame", "(LCreepBoard$Mark;II)I"⟩
abbrev cX9_northInFrame : ByteArray := prog_1_method_44_code
def yX9_northInFrame : MethodName := ⟨RX9, "northInFrame", "(LCreepBoard$Mark;II)I"⟩
abbrev cX9_areaTwice : ByteArray := prog_1_method_45_code
def yX9_areaTwice : MethodName := ⟨RX9, "areaTwice", "(LCreepBoard$Mark;LCreepBoard$Mark;LCreepBoard$Mark;)J"⟩
abbrev cX9_strainAbove : ByteArray := prog_1_method_46_code
def yX9_strainAbove : MethodName := ⟨RX9, "strainAbove", "(LCreepBoard$Mark;LCreepBoard$Mark;LCreepBoard$Mark;I)J"⟩
abbrev cX9_lowestTerms : ByteArray := prog_1_method_47_code
def yX9_lowestTerms : MethodName := ⟨RX9, "lowestTerms", "(JJZ)J"⟩
abbrev cX9_greatestDivisor : ByteArray := prog_1_method_48_code
def yX9_greatestDivisor : MethodName := ⟨RX9, "greatestDivisor", "(JJ)J"⟩
abbrev cX9_allReadings : ByteArray := prog_1_method_49_code
def yX9_allReadings : MethodName := ⟨RX9, "allReadings", "()I"⟩
abbrev cX9_allSteps : ByteArray := prog_1_method_50_code
def yX9_allSteps : MethodName := ⟨RX9, "allSteps", "()I"⟩
abbrev cX9_markOn : ByteArray := prog_1_method_51_code
def yX9_markOn : MethodName := ⟨RX9, "markOn", "(I)LCreepBoard$Mark;"⟩
abbrev cX9_refusalOfMarkOn : ByteArray := prog_1_method_52_code
def yX9_refusalOfMarkOn : MethodName := ⟨RX9, "refusalOfMarkOn", "(I)I"⟩
def RX10 : String := "CreepBoardModel"
def TX10 : u_T := fun k => match k with
  | 0 => ("CreepBoardModel", "thrown", "I", false)
  | 1 => ("CreepBoardModel", "marks", "I", false)
  | 2 => ("CreepBoardModel", "kind", "[I", true)
  | 3 => ("CreepBoardModel", "x", "[I", true)
  | 4 => ("CreepBoardModel", "y", "[I", true)
  | 5 => ("CreepBoardModel", "offset", "[I", true)
  | 6 => ("CreepBoardModel", "since", "[I", true)
  | 7 => ("CreepBoardModel", "steps", "[I", true)
  | 8 => ("CreepBoardModel", "isRead", "[Z", true)
  | 9 => ("CreepBoardModel", "reading", "[I", true)
  | 10 => ("CreepBoardModel", "stepAt", "[I", true)
  | 11 => ("CreepBoardModel", "step", "[I", true)
  | 12 => ("CreepBoardModel", "east", "[I", true)
  | 13 => ("CreepBoardModel", "north", "[I", true)
  | 14 => ("CreepBoardModel", "fewest", "[I", true)
  | 15 => ("CreepBoardModel", "ofMark", "[I", true)
  | 16 => ("CreepBoardModel", "isOne", "[Z", true)
  | 17 => ("CreepBoardModel", "tolerance", "I", false)
  | 18 => ("CreepBoardModel", "green", "[I", true)
  | 19 => ("CreepBoardModel", "fitting", "I", false)
  | 20 => ("CreepBoardModel", "leastSlip", "[I", true)
  | 21 => ("CreepBoardModel", "mostSlip", "[I", true)
  | 22 => ("CreepBoardModel", "lines", "I", false)
  | 23 => ("CreepBoardModel", "from", "[I", true)
  | 24 => ("CreepBoardModel", "to", "[I", true)
  | 25 => ("CreepBoardModel", "rise", "[I", true)
  | 26 => ("CreepBoardModel", "group", "[I", true)
  | 27 => ("CreepBoardModel", "above", "[J", true)
  | 28 => ("CreepBoardModel", "held", "[I", true)
  | 29 => ("CreepBoardModel", "heldMark", "[I", true)
  | 30 => ("CreepBoardModel", "size", "[I", true)
  | 31 => ("CreepBoardModel", "item", "[J", true)
  | _ => ("CreepBoardModel", "aside", "[J", true)
def tyX10 : Nat → FieldType := fun k => match k with
  | 0 => .int
  | 1 => .int
  | 2 => .array .int
  | 3 => .array .int
  | 4 => .array .int
  | 5 => .array .int
  | 6 => .array .int
  | 7 => .array .int
  | 8 => .array .boolean
  | 9 => .array .int
  | 10 => .array .int
  | 11 => .array .int
  | 12 => .array .int
  | 13 => .array .int
  | 14 => .array .int
  | 15 => .array .int
  | 16 => .array .boolean
  | 17 => .int
  | 18 => .array .int
  | 19 => .int
  | 20 => .array .int
  | 21 => .array .int
  | 22 => .int
  | 23 => .array .int
  | 24 => .array .int
  | 25 => .array .int
  | 26 => .array .int
  | 27 => .array .long
  | 28 => .array .int
  | 29 => .array .int
  | 30 => .array .int
  | 31 => .array .long
  | _ => .array .long
abbrev wsX100 : List Cond := u_ws RX10 TX10 33
theorem nmX10 : ∀ a, a < 33 → ∀ b, b < 33 → a ≠ b → (TX10 a).2.1 ≠ (TX10 b).2.1 := by decide +kernel
theorem tyX10_ok : ∀ k, k < 33 → parseFieldDescriptor (TX10 k).2.2.1 = some (tyX10 k) := by decide +kernel
abbrev cX10_init : ByteArray := prog_12_method_1_code
def yX10_init : MethodName := ⟨RX10, "<init>", "()V"⟩
abbrev cX10_thrown : ByteArray := prog_12_method_2_code
def yX10_thrown : MethodName := ⟨RX10, "thrown", "()I"⟩
abbrev cX10_in : ByteArray := prog_12_method_3_code
def yX10_in : MethodName := ⟨RX10, "in", "(III)Z"⟩
abbrev cX10_isMark : ByteArray := prog_12_method_4_code
def yX10_isMark : MethodName := ⟨RX10, "isMark", "(I)Z"⟩
abbrev cX10_isEpoch : ByteArray := prog_12_method_5_code
def yX10_isEpoch : MethodName := ⟨RX10, "isEpoch", "(I)Z"⟩
abbrev cX10_isSide : ByteArray := prog_12_method_6_code
def yX10_isSide : MethodName := ⟨RX10, "isSide", "(I)Z"⟩
abbrev cX10_hasAntenna : ByteArray := prog_12_method_7_code
def yX10_hasAntenna : MethodName := ⟨RX10, "hasAntenna", "(I)Z"⟩
abbrev cX10_mark : ByteArray := prog_12_method_8_code
def yX10_mark : MethodName := ⟨RX10, "mark", "(III)I"⟩
abbrev cX10_antenna : ByteArray := prog_12_method_9_code
def yX10_antenna : MethodName := ⟨RX10, "antenna", "(III)I"⟩
abbrev cX10_spot : ByteArray := prog_12_method_10_code
def yX10_spot : MethodName := ⟨RX10, "spot", "(II)I"⟩
abbrev cX10_read : ByteArray := prog_12_method_11_code
def yX10_read : MethodName := ⟨RX10, "read", "(IIII)I"⟩
abbrev cX10_gap : ByteArray := prog_12_method_12_code
def yX10_gap : MethodName := ⟨RX10, "gap", "(II)I"⟩
abbrev cX10_step : ByteArray := prog_12_method_13_code
def yX10_step : MethodName := ⟨RX10, "step", "(IIII)I"⟩
abbrev cX10_isLeftOut : ByteArray := prog_12_method_14_code
def yX10_isLeftOut : MethodName := ⟨RX10, "isLeftOut", "(II)Z"⟩
abbrev cX10_isCleared : ByteArray := prog_12_method_15_code
def yX10_isCleared : MethodName := ⟨RX10, "isCleared", "(II)Z"⟩
abbrev cX10_withoutSteps : ByteArray := prog_12_method_16_code
def yX10_withoutSteps : MethodName := ⟨RX10, "withoutSteps", "(III)J"⟩
abbrev cX10_meanOf : ByteArray := prog_12_method_17_code
def yX10_meanOf : MethodName := ⟨RX10, "meanOf", "(III)J"⟩
abbrev cX10_clear : ByteArray := prog_12_method_18_code
def yX10_clear : MethodName := ⟨RX10, "clear", "(III)J"⟩
abbrev cX10_cleared : ByteArray := prog_12_method_19_code
def yX10_cleared : MethodName := ⟨RX10, "cleared", "(III)J"⟩
abbrev cX10_manyOf : ByteArray := prog_12_method_20_code
def yX10_manyOf : MethodName := ⟨RX10, "manyOf", "(I)I"⟩
abbrev cX10_many : ByteArray := prog_12_method_21_code
def yX10_many : MethodName := ⟨RX10, "many", "(I)I"⟩
abbrev cX10_divisor : ByteArray := prog_12_method_22_code
def yX10_divisor : MethodName := ⟨RX10, "divisor", "(JJ)J"⟩
abbrev cX10_lowest : ByteArray := prog_12_method_23_code
def yX10_lowest : MethodName := ⟨RX10, "lowest", "(JJZ)J"⟩
abbrev cX10_rate : ByteArray := prog_12_method_24_code
def yX10_rate : MethodName := ⟨RX10, "rate", "(IIZ)J"⟩
abbrev cX10_jump : ByteArray := prog_12_method_25_code
def yX10_jump : MethodName := ⟨RX10, "jump", "(II)I"⟩
abbrev cX10_firstOf : ByteArray := prog_12_method_26_code
def yX10_firstOf : MethodName := ⟨RX10, "firstOf", "(II)J"⟩
abbrev cX10_common : ByteArray := prog_12_method_27_code
def yX10_common : MethodName := ⟨RX10, "common", "(II)J"⟩
abbrev cX10_velocity : ByteArray := prog_12_method_28_code
def yX10_velocity : MethodName := ⟨RX10, "velocity", "(III)I"⟩
abbrev cX10_moves : ByteArray := prog_12_method_29_code
def yX10_moves : MethodName := ⟨RX10, "moves", "(II)J"⟩
abbrev cX10_frame : ByteArray := prog_12_method_30_code
def yX10_frame : MethodName := ⟨RX10, "frame", "(III)I"⟩
abbrev cX10_strain : ByteArray := prog_12_method_31_code
def yX10_strain : MethodName := ⟨RX10, "strain", "(IIIIZ)J"⟩
abbrev cX10_isBlock : ByteArray := prog_12_method_32_code
def yX10_isBlock : MethodName := ⟨RX10, "isBlock", "(I)Z"⟩
abbrev cX10_block : ByteArray := prog_12_method_33_code
def yX10_block : MethodName := ⟨RX10, "block", "(I)I"⟩
abbrev cX10_findBlocks : ByteArray := prog_12_method_34_code
def yX10_findBlocks : MethodName := ⟨RX10, "findBlocks", "()V"⟩
abbrev cX10_blocks : ByteArray := prog_12_method_35_code
def yX10_blocks : MethodName := ⟨RX10, "blocks", "()I"⟩
abbrev cX10_of : ByteArray := prog_12_method_36_code
def yX10_of : MethodName := ⟨RX10, "of", "(I)I"⟩
abbrev cX10_green : ByteArray := prog_12_method_37_code
def yX10_green : MethodName := ⟨RX10, "green", "(III)I"⟩
abbrev cX10_tolerance : ByteArray := prog_12_method_38_code
def yX10_tolerance : MethodName := ⟨RX10, "tolerance", "(I)I"⟩
abbrev cX10_doFit : ByteArray := prog_12_method_39_code
def yX10_doFit : MethodName := ⟨RX10, "doFit", "(III)Z"⟩
abbrev cX10_findSlips : ByteArray := prog_12_method_40_code
def yX10_findSlips : MethodName := ⟨RX10, "findSlips", "()V"⟩
abbrev cX10_fits : ByteArray := prog_12_method_41_code
def yX10_fits : MethodName := ⟨RX10, "fits", "()I"⟩
abbrev cX10_slip : ByteArray := prog_12_method_42_code
def yX10_slip : MethodName := ⟨RX10, "slip", "(IZ)I"⟩
abbrev cX10_locked : ByteArray := prog_12_method_43_code
def yX10_locked : MethodName := ⟨RX10, "locked", "()I"⟩
abbrev cX10_line : ByteArray := prog_12_method_44_code
def yX10_line : MethodName := ⟨RX10, "line", "(III)I"⟩
abbrev cX10_unline : ByteArray := prog_12_method_45_code
def yX10_unline : MethodName := ⟨RX10, "unline", "()I"⟩
abbrev cX10_agree : ByteArray := prog_12_method_46_code
def yX10_agree : MethodName := ⟨RX10, "agree", "(I)Z"⟩
abbrev cX10_ones : ByteArray := prog_12_method_47_code
def yX10_ones : MethodName := ⟨RX10, "ones", "(I)I"⟩
abbrev cX10_findWrong : ByteArray := prog_12_method_48_code
def yX10_findWrong : MethodName := ⟨RX10, "findWrong", "()I"⟩
abbrev cX10_wrong : ByteArray := prog_12_method_49_code
def yX10_wrong : MethodName := ⟨RX10, "wrong", "(I)I"⟩
abbrev cX10_height : ByteArray := prog_12_method_50_code
def yX10_height : MethodName := ⟨RX10, "height", "(I)J"⟩
abbrev cX10_readingsOf : ByteArray := prog_12_method_51_code
def yX10_readingsOf : MethodName := ⟨RX10, "readingsOf", "(I)I"⟩
abbrev cX10_count : ByteArray := prog_12_method_52_code
def yX10_count : MethodName := ⟨RX10, "count", "(I)I"⟩
abbrev cX10_isShelf : ByteArray := prog_12_method_53_code
def yX10_isShelf : MethodName := ⟨RX10, "isShelf", "(I)Z"⟩
abbrev cX10_wipe : ByteArray := prog_12_method_54_code
def yX10_wipe : MethodName := ⟨RX10, "wipe", "(I)V"⟩
abbrev cX10_keep : ByteArray := prog_12_method_55_code
def yX10_keep : MethodName := ⟨RX10, "keep", "(III)I"⟩
abbrev cX10_make : ByteArray := prog_12_method_56_code
def yX10_make : MethodName := ⟨RX10, "make", "(III)I"⟩
abbrev cX10_element : ByteArray := prog_12_method_57_code
def yX10_element : MethodName := ⟨RX10, "element", "(II)J"⟩
abbrev cX10_copy : ByteArray := prog_12_method_58_code
def yX10_copy : MethodName := ⟨RX10, "copy", "(IIIII)I"⟩
abbrev cX10_weight : ByteArray := prog_12_method_59_code
def yX10_weight : MethodName := ⟨RX10, "weight", "(I)I"⟩
abbrev cX10_toss : ByteArray := prog_12_method_60_code
def yX10_toss : MethodName := ⟨RX10, "toss", "(I)I"⟩
def RJ6 : String := "java/lang/Integer"
def TJ6 : u_T := fun k => match k with
  | _ => ("", "", "", false)
def tyJ6 : Nat → FieldType := fun k => match k with
  | _ => .int
abbrev wsJ60 : List Cond := u_ws RJ6 TJ6 0
theorem nmJ6 : ∀ a, a < 0 → ∀ b, b < 0 → a ≠ b → (TJ6 a).2.1 ≠ (TJ6 b).2.1 := by decide +kernel
theorem tyJ6_ok : ∀ k, k < 0 → parseFieldDescriptor (TJ6 k).2.2.1 = some (tyJ6 k) := by decide +kernel
abbrev cJ6_bitCount_0f7a4 : ByteArray := prog_16_method_49_code
def yJ6_bitCount_0f7a4 : MethodName := ⟨RJ6, "bitCount", "(I)I"⟩
def RJ9 : String := "java/lang/Math"
def TJ9 : u_T := fun k => match k with
  | _ => ("", "", "", false)
def tyJ9 : Nat → FieldType := fun k => match k with
  | _ => .int
abbrev wsJ90 : List Cond := u_ws RJ9 TJ9 0
theorem nmJ9 : ∀ a, a < 0 → ∀ b, b < 0 → a ≠ b → (TJ9 a).2.1 ≠ (TJ9 b).2.1 := by decide +kernel
theorem tyJ9_ok : ∀ k, k < 0 → parseFieldDescriptor (TJ9 k).2.2.1 = some (tyJ9 k) := by decide +kernel
abbrev cJ9_floorDiv_7cf53 : ByteArray := prog_17_method_47_code
def yJ9_floorDiv_7cf53 : MethodName := ⟨RJ9, "floorDiv", "(II)I"⟩
abbrev cJ9_abs_0f7a4 : ByteArray := prog_17_method_59_code
def yJ9_abs_0f7a4 : MethodName := ⟨RJ9, "abs", "(I)I"⟩
abbrev cJ9_abs_067f4 : ByteArray := prog_17_method_61_code
def yJ9_abs_067f4 : MethodName := ⟨RJ9, "abs", "(J)J"⟩
abbrev cJ9_max_7cf53 : ByteArray := prog_17_method_65_code
def yJ9_max_7cf53 : MethodName := ⟨RJ9, "max", "(II)I"⟩
abbrev cJ9_min_7cf53 : ByteArray := prog_17_method_69_code
def yJ9_min_7cf53 : MethodName := ⟨RJ9, "min", "(II)I"⟩
def RJ0 : String := "java/lang/String"
def TJ0 : u_T := fun k => match k with
  | _ => ("", "", "", false)
def tyJ0 : Nat → FieldType := fun k => match k with
  | _ => .int
abbrev wsJ00 : List Cond := u_ws RJ0 TJ0 0
theorem nmJ0 : ∀ a, a < 0 → ∀ b, b < 0 → a ≠ b → (TJ0 a).2.1 ≠ (TJ0 b).2.1 := by decide +kernel
theorem tyJ0_ok : ∀ k, k < 0 → parseFieldDescriptor (TJ0 k).2.2.1 = some (tyJ0 k) := by decide +kernel
def RJ10 : String := "java/lang/System"
def TJ10 : u_T := fun k => match k with
  | _ => ("", "", "", false)
def tyJ10 : Nat → FieldType := fun k => match k with
  | _ => .int
abbrev wsJ100 : List Cond := u_ws RJ10 TJ10 0
theorem nmJ10 : ∀ a, a < 0 → ∀ b, b < 0 → a ≠ b → (TJ10 a).2.1 ≠ (TJ10 b).2.1 := by decide +kernel
theorem tyJ10_ok : ∀ k, k < 0 → parseFieldDescriptor (TJ10 k).2.2.1 = some (tyJ10 k) := by decide +kernel
def RL : String := "CreepBoardLaw"
abbrev cL_cleared : ByteArray := method_3_code
def yL_cleared : MethodName := ⟨RL, "cleared", "(LCreepBoard;III[J)I"⟩
abbrev cL_rate : ByteArray := method_4_code
def yL_rate : MethodName := ⟨RL, "rate", "(LCreepBoard;IIZ[J)I"⟩
abbrev cL_common : ByteArray := method_5_code
def yL_common : MethodName := ⟨RL, "common", "(LCreepBoard;II[J)I"⟩
abbrev cL_moves : ByteArray := method_6_code
def yL_moves : MethodName := ⟨RL, "moves", "(LCreepBoard;II[J)I"⟩
abbrev cL_strain : ByteArray := method_7_code
def yL_strain : MethodName := ⟨RL, "strain", "(LCreepBoard;IIIIZ[J)I"⟩
abbrev cL_height : ByteArray := method_8_code
def yL_height : MethodName := ⟨RL, "height", "(LCreepBoard;I[J)I"⟩
abbrev cL_element : ByteArray := method_9_code
def yL_element : MethodName := ⟨RL, "element", "(LCreepBoard;II[J)I"⟩
abbrev cL_law : ByteArray := code
def yL_law : MethodName := ⟨RL, "law", "([I)Z"⟩
abbrev vwCl : List vw_C := [(RX0, TX0, 6), (RX1, TX1, 11), (RX2, TX2, 11), (RX3, TX3, 11), (RX4, TX4, 13), (RX5, TX5, 3), (RX6, TX6, 4), (RX7, TX7, 6), (RX8, TX8, 13), (RX9, TX9, 8), (RX10, TX10, 33)]
end
section
def wsX10_init_r1 : List Cond := [Cond.methodLink RX10 1 objectInit, Cond.instanceMethod objectInit, Cond.code objectInit ⟨#[0xb1]⟩ 1 none, Cond.fieldLink RX10 7 "CreepBoardModel" "thrown" "I", Cond.fieldLink RX10 13 "CreepBoardModel" "marks" "I", Cond.arrayClass .int, Cond.fieldLink RX10 16 "CreepBoardModel" "kind" "[I", Cond.fieldLink RX10 20 "CreepBoardModel" "x" "[I", Cond.fieldLink RX10 23 "CreepBoardModel" "y" "[I", Cond.fieldLink RX10 26 "CreepBoardModel" "offset" "[I", Cond.fieldLink RX10 29 "CreepBoardModel" "since" "[I", Cond.fieldLink RX10 32 "CreepBoardModel" "steps" "[I", Cond.arrayClass .boolean, Cond.fieldLink RX10 35 "CreepBoardModel" "isRead" "[Z", Cond.fieldLink RX10 39 "CreepBoardModel" "reading" "[I", Cond.fieldLink RX10 42 "CreepBoardModel" "stepAt" "[I", Cond.fieldLink RX10 45 "CreepBoardModel" "step" "[I", Cond.fieldLink RX10 48 "CreepBoardModel" "east" "[I", Cond.fieldLink RX10 51 "CreepBoardModel" "north" "[I", Cond.fieldLink RX10 54 "CreepBoardModel" "fewest" "[I", Cond.fieldLink RX10 57 "CreepBoardModel" "ofMark" "[I", Cond.fieldLink RX10 60 "CreepBoardModel" "isOne" "[Z", Cond.fieldLink RX10 63 "CreepBoardModel" "tolerance" "I", Cond.fieldLink RX10 66 "CreepBoardModel" "green" "[I"]
def wsX10_init_r2 : List Cond := [Cond.fieldLink RX10 69 "CreepBoardModel" "fitting" "I", Cond.fieldLink RX10 72 "CreepBoardModel" "leastSlip" "[I", Cond.fieldLink RX10 75 "CreepBoardModel" "mostSlip" "[I", Cond.fieldLink RX10 78 "CreepBoardModel" "lines" "I", Cond.fieldLink RX10 81 "CreepBoardModel" "from" "[I", Cond.fieldLink RX10 84 "CreepBoardModel" "to" "[I", Cond.fieldLink RX10 87 "CreepBoardModel" "rise" "[I", Cond.fieldLink RX10 90 "CreepBoardModel" "group" "[I", Cond.arrayClass .long, Cond.fieldLink RX10 93 "CreepBoardModel" "above" "[J", Cond.fieldLink RX10 97 "CreepBoardModel" "held" "[I", Cond.fieldLink RX10 100 "CreepBoardModel" "heldMark" "[I", Cond.fieldLink RX10 103 "CreepBoardModel" "size" "[I", Cond.fieldLink RX10 106 "CreepBoardModel" "item" "[J", Cond.fieldLink RX10 109 "CreepBoardModel" "aside" "[J"]
def wsX10_init : List Cond := .code yX10_init cX10_init 1 none :: ((wsX10_init_r1 ++ wsX10_init_r2) ++ wsX100)
def wsX10_thrown : List Cond := .code yX10_thrown cX10_thrown 1 (some .int) :: ([.fieldLink RX10 7 "CreepBoardModel" "thrown" "I"] ++ wsX100)
def wsX10_in : List Cond := .code yX10_in cX10_in 4 (some .boolean) :: ([])
def wsX10_isMark : List Cond := .code yX10_isMark cX10_isMark 2 (some .boolean) :: ([.fieldLink RX10 13 "CreepBoardModel" "marks" "I", .methodLink RX10 112 yX10_in, .instanceMethod yX10_in, .selects RX10 yX10_in yX10_in, .initialized RX10, .code yX10_in cX10_in 4 (some .boolean)] ++ wsX100)
def wsX10_isEpoch : List Cond := .code yX10_isEpoch cX10_isEpoch 2 (some .boolean) :: ([.methodLink RX10 112 yX10_in, .instanceMethod yX10_in, .selects RX10 yX10_in yX10_in, .initialized RX10, .code yX10_in cX10_in 4 (some .boolean)])
def wsX10_isSide : List Cond := .code yX10_isSide cX10_isSide 2 (some .boolean) :: ([])
def wsX10_hasAntenna : List Cond := .code yX10_hasAntenna cX10_hasAntenna 2 (some .boolean) :: ([.fieldLink RX10 16 "CreepBoardModel" "kind" "[I"] ++ wsX100)
def wsX10_mark : List Cond := .code yX10_mark cX10_mark 4 (some .int) :: ([.fieldLink RX10 13 "CreepBoardModel" "marks" "I", .fieldLink RX10 16 "CreepBoardModel" "kind" "[I", .fieldLink RX10 20 "CreepBoardModel" "x" "[I", .fieldLink RX10 23 "CreepBoardModel" "y" "[I", .methodLink RX10 112 yX10_in, .instanceMethod yX10_in, .selects RX10 yX10_in yX10_in, .initialized RX10, .code yX10_in cX10_in 4 (some .boolean)] ++ wsX100)
def wsX10_antenna : List Cond := .code yX10_antenna cX10_antenna 5 (some .int) :: ([.fieldLink RX10 26 "CreepBoardModel" "offset" "[I", .fieldLink RX10 29 "CreepBoardModel" "since" "[I", .methodLink RX10 116 yX10_isMark, .instanceMethod yX10_isMark, .selects RX10 yX10_isMark yX10_isMark, .initialized RX10, .code yX10_isMark cX10_isMark 2 (some .boolean), .fieldLink RX10 13 "CreepBoardModel" "marks" "I", .methodLink RX10 112 yX10_in, .instanceMethod yX10_in, .selects RX10 yX10_in yX10_in, .code yX10_in cX10_in 4 (some .boolean), .methodLink RX10 120 yX10_isEpoch, .instanceMethod yX10_isEpoch, .selects RX10 yX10_isEpoch yX10_isEpoch, .code yX10_isEpoch cX10_isEpoch 2 (some .boolean), .methodLink RX10 123 yX10_hasAntenna, .instanceMethod yX10_hasAntenna, .selects RX10 yX10_hasAntenna yX10_hasAntenna, .code yX10_hasAntenna cX10_hasAntenna 2 (some .boolean), .fieldLink RX10 16 "CreepBoardModel" "kind" "[I"] ++ wsX100)
def wsX10_spot : List Cond := .code yX10_spot cX10_spot 3 (some .int) :: ([])
def wsX10_read : List Cond := .code yX10_read cX10_read 6 (some .int) :: ([.constant RX10 126 (-100000), .constant RX10 127 (100000), .fieldLink RX10 35 "CreepBoardModel" "isRead" "[Z", .fieldLink RX10 39 "CreepBoardModel" "reading" "[I", .methodLink RX10 116 yX10_isMark, .instanceMethod yX10_isMark, .selects RX10 yX10_isMark yX10_isMark, .initialized RX10, .code yX10_isMark cX10_isMark 2 (some .boolean), .fieldLink RX10 13 "CreepBoardModel" "marks" "I", .methodLink RX10 112 yX10_in, .instanceMethod yX10_in, .selects RX10 yX10_in yX10_in, .code yX10_in cX10_in 4 (some .boolean), .methodLink RX10 120 yX10_isEpoch, .instanceMethod yX10_isEpoch, .selects RX10 yX10_isEpoch yX10_isEpoch, .code yX10_isEpoch cX10_isEpoch 2 (some .boolean), .methodLink RX10 128 yX10_spot, .instanceMethod yX10_spot, .selects RX10 yX10_spot yX10_spot, .code yX10_spot cX10_spot 3 (some .int)] ++ wsX100)
def wsX10_gap : List Cond := .code yX10_gap cX10_gap 4 (some .int) :: ([.fieldLink RX10 35 "CreepBoardModel" "isRead" "[Z", .methodLink RX10 116 yX10_isMark, .instanceMethod yX10_isMark, .selects RX10 yX10_isMark yX10_isMark, .initialized RX10, .code yX10_isMark cX10_isMark 2 (some .boolean), .fieldLink RX10 13 "CreepBoardModel" "marks" "I", .methodLink RX10 112 yX10_in, .instanceMethod yX10_in, .selects RX10 yX10_in yX10_in, .code yX10_in cX10_in 4 (some .boolean), .methodLink RX10 120 yX10_isEpoch, .instanceMethod yX10_isEpoch, .selects RX10 yX10_isEpoch yX10_isEpoch, .code yX10_isEpoch cX10_isEpoch 2 (some .boolean), .methodLink RX10 128 yX10_spot, .instanceMethod yX10_spot, .selects RX10 yX10_spot yX10_spot, .code yX10_spot cX10_spot 3 (some .int)] ++ wsX100)
def wsX10_step : List Cond := .code yX10_step cX10_step 6 (some .int) :: ([.fieldLink RX10 32 "CreepBoardModel" "steps" "[I", .fieldLink RX10 42 "CreepBoardModel" "stepAt" "[I", .fieldLink RX10 45 "CreepBoardModel" "step" "[I", .methodLink RX10 116 yX10_isMark, .instanceMethod yX10_isMark, .selects RX10 yX10_isMark yX10_isMark, .initialized RX10, .code yX10_isMark cX10_isMark 2 (some .boolean), .fieldLink RX10 13 "CreepBoardModel" "marks" "I", .methodLink RX10 112 yX10_in, .instanceMethod yX10_in, .selects RX10 yX10_in yX10_in, .code yX10_in cX10_in 4 (some .boolean), .methodLink RX10 120 yX10_isEpoch, .instanceMethod yX10_isEpoch, .selects RX10 yX10_isEpoch yX10_isEpoch, .code yX10_isEpoch cX10_isEpoch 2 (some .boolean)] ++ wsX100)
def wsX10_isLeftOut : List Cond := .code yX10_isLeftOut cX10_isLeftOut 5 (some .boolean) :: ([.fieldLink RX10 35 "CreepBoardModel" "isRead" "[Z", .fieldLink RX10 16 "CreepBoardModel" "kind" "[I", .methodLink RX10 128 yX10_spot, .instanceMethod yX10_spot, .selects RX10 yX10_spot yX10_spot, .initialized RX10, .code yX10_spot cX10_spot 3 (some .int)] ++ wsX100)
def wsX10_isCleared : List Cond := .code yX10_isCleared cX10_isCleared 3 (some .boolean) :: ([.fieldLink RX10 35 "CreepBoardModel" "isRead" "[Z", .methodLink RX10 128 yX10_spot, .instanceMethod yX10_spot, .selects RX10 yX10_spot yX10_spot, .initialized RX10, .code yX10_spot cX10_spot 3 (some .int), .methodLink RX10 132 yX10_isLeftOut, .instanceMethod yX10_isLeftOut, .selects RX10 yX10_isLeftOut yX10_isLeftOut, .code yX10_isLeftOut cX10_isLeftOut 5 (some .boolean), .fieldLink RX10 16 "CreepBoardModel" "kind" "[I"] ++ wsX100)
def wsX10_withoutSteps : List Cond := .code yX10_withoutSteps cX10_withoutSteps 7 (some .long) :: ([.fieldLink RX10 39 "CreepBoardModel" "reading" "[I", .fieldLink RX10 32 "CreepBoardModel" "steps" "[I", .fieldLink RX10 42 "CreepBoardModel" "stepAt" "[I", .fieldLink RX10 45 "CreepBoardModel" "step" "[I", .methodLink RX10 128 yX10_spot, .instanceMethod yX10_spot, .selects RX10 yX10_spot yX10_spot, .initialized RX10, .code yX10_spot cX10_spot 3 (some .int)] ++ wsX100)
def wsX10_meanOf : List Cond := .code yX10_meanOf cX10_meanOf 8 (some .long) :: ([.fieldLink RX10 35 "CreepBoardModel" "isRead" "[Z", .fieldLink RX10 39 "CreepBoardModel" "reading" "[I", .methodLink RX10 128 yX10_spot, .instanceMethod yX10_spot, .selects RX10 yX10_spot yX10_spot, .initialized RX10, .code yX10_spot cX10_spot 3 (some .int)] ++ wsX100)
def wsX10_clear_r1 : List Cond := [Cond.fieldLink RX10 29 "CreepBoardModel" "since" "[I", Cond.fieldLink RX10 26 "CreepBoardModel" "offset" "[I", Cond.fieldLink RX10 16 "CreepBoardModel" "kind" "[I", Cond.methodLink RX10 136 yX10_withoutSteps, Cond.instanceMethod yX10_withoutSteps, Cond.selects RX10 yX10_withoutSteps yX10_withoutSteps, Cond.initialized RX10, Cond.code yX10_withoutSteps cX10_withoutSteps 7 (some .long), Cond.fieldLink RX10 39 "CreepBoardModel" "reading" "[I", Cond.fieldLink RX10 32 "CreepBoardModel" "steps" "[I", Cond.fieldLink RX10 42 "CreepBoardModel" "stepAt" "[I", Cond.fieldLink RX10 45 "CreepBoardModel" "step" "[I", Cond.methodLink RX10 128 yX10_spot, Cond.instanceMethod yX10_spot, Cond.selects RX10 yX10_spot yX10_spot, Cond.code yX10_spot cX10_spot 3 (some .int), Cond.methodLink RX10 123 yX10_hasAntenna, Cond.instanceMethod yX10_hasAntenna, Cond.selects RX10 yX10_hasAntenna yX10_hasAntenna, Cond.code yX10_hasAntenna cX10_hasAntenna 2 (some .boolean), Cond.methodLink RX10 140 yX10_meanOf, Cond.instanceMethod yX10_meanOf, Cond.selects RX10 yX10_meanOf yX10_meanOf, Cond.code yX10_meanOf cX10_meanOf 8 (some .long)]
def wsX10_clear_r2 : List Cond := [Cond.fieldLink RX10 35 "CreepBoardModel" "isRead" "[Z"]
def wsX10_clear : List Cond := .code yX10_clear cX10_clear 6 (some .long) :: ((wsX10_clear_r1 ++ wsX10_clear_r2) ++ wsX100)
def wsX10_cleared_r1 : List Cond := [Cond.fieldLink RX10 7 "CreepBoardModel" "thrown" "I", Cond.methodLink RX10 116 yX10_isMark, Cond.instanceMethod yX10_isMark, Cond.selects RX10 yX10_isMark yX10_isMark, Cond.initialized RX10, Cond.code yX10_isMark cX10_isMark 2 (some .boolean), Cond.fieldLink RX10 13 "CreepBoardModel" "marks" "I", Cond.methodLink RX10 112 yX10_in, Cond.instanceMethod yX10_in, Cond.selects RX10 yX10_in yX10_in, Cond.code yX10_in cX10_in 4 (some .boolean), Cond.methodLink RX10 120 yX10_isEpoch, Cond.instanceMethod yX10_isEpoch, Cond.selects RX10 yX10_isEpoch yX10_isEpoch, Cond.code yX10_isEpoch cX10_isEpoch 2 (some .boolean), Cond.methodLink RX10 143 yX10_isSide, Cond.instanceMethod yX10_isSide, Cond.selects RX10 yX10_isSide yX10_isSide, Cond.code yX10_isSide cX10_isSide 2 (some .boolean), Cond.methodLink RX10 146 yX10_isCleared, Cond.instanceMethod yX10_isCleared, Cond.selects RX10 yX10_isCleared yX10_isCleared, Cond.code yX10_isCleared cX10_isCleared 3 (some .boolean), Cond.fieldLink RX10 35 "CreepBoardModel" "isRead" "[Z"]
def wsX10_cleared_r2 : List Cond := [Cond.methodLink RX10 128 yX10_spot, Cond.instanceMethod yX10_spot, Cond.selects RX10 yX10_spot yX10_spot, Cond.code yX10_spot cX10_spot 3 (some .int), Cond.methodLink RX10 132 yX10_isLeftOut, Cond.instanceMethod yX10_isLeftOut, Cond.selects RX10 yX10_isLeftOut yX10_isLeftOut, Cond.code yX10_isLeftOut cX10_isLeftOut 5 (some .boolean), Cond.fieldLink RX10 16 "CreepBoardModel" "kind" "[I", Cond.methodLink RX10 149 yX10_clear, Cond.instanceMethod yX10_clear, Cond.selects RX10 yX10_clear yX10_clear, Cond.code yX10_clear cX10_clear 6 (some .long), Cond.fieldLink RX10 29 "CreepBoardModel" "since" "[I", Cond.fieldLink RX10 26 "CreepBoardModel" "offset" "[I", Cond.methodLink RX10 136 yX10_withoutSteps, Cond.instanceMethod yX10_withoutSteps, Cond.selects RX10 yX10_withoutSteps yX10_withoutSteps, Cond.code yX10_withoutSteps cX10_withoutSteps 7 (some .long), Cond.fieldLink RX10 39 "CreepBoardModel" "reading" "[I", Cond.fieldLink RX10 32 "CreepBoardModel" "steps" "[I", Cond.fieldLink RX10 42 "CreepBoardModel" "stepAt" "[I", Cond.fieldLink RX10 45 "CreepBoardModel" "step" "[I", Cond.methodLink RX10 123 yX10_hasAntenna]
def wsX10_cleared_r3 : List Cond := [Cond.instanceMethod yX10_hasAntenna, Cond.selects RX10 yX10_hasAntenna yX10_hasAntenna, Cond.code yX10_hasAntenna cX10_hasAntenna 2 (some .boolean), Cond.methodLink RX10 140 yX10_meanOf, Cond.instanceMethod yX10_meanOf, Cond.selects RX10 yX10_meanOf yX10_meanOf, Cond.code yX10_meanOf cX10_meanOf 8 (some .long)]
def wsX10_cleared : List Cond := .code yX10_cleared cX10_cleared 4 (some .long) :: ((wsX10_cleared_r1 ++ (wsX10_cleared_r2 ++ wsX10_cleared_r3)) ++ wsX100)
def wsX10_manyOf : List Cond := .code yX10_manyOf cX10_manyOf 4 (some .int) :: ([.methodLink RX10 146 yX10_isCleared, .instanceMethod yX10_isCleared, .selects RX10 yX10_isCleared yX10_isCleared, .initialized RX10, .code yX10_isCleared cX10_isCleared 3 (some .boolean), .fieldLink RX10 35 "CreepBoardModel" "isRead" "[Z", .methodLink RX10 128 yX10_spot, .instanceMethod yX10_spot, .selects RX10 yX10_spot yX10_spot, .code yX10_spot cX10_spot 3 (some .int), .methodLink RX10 132 yX10_isLeftOut, .instanceMethod yX10_isLeftOut, .selects RX10 yX10_isLeftOut yX10_isLeftOut, .code yX10_isLeftOut cX10_isLeftOut 5 (some .boolean), .fieldLink RX10 16 "CreepBoardModel" "kind" "[I"] ++ wsX100)
def wsX10_many_r1 : List Cond := [Cond.methodLink RX10 116 yX10_isMark, Cond.instanceMethod yX10_isMark, Cond.selects RX10 yX10_isMark yX10_isMark, Cond.initialized RX10, Cond.code yX10_isMark cX10_isMark 2 (some .boolean), Cond.fieldLink RX10 13 "CreepBoardModel" "marks" "I", Cond.methodLink RX10 112 yX10_in, Cond.instanceMethod yX10_in, Cond.selects RX10 yX10_in yX10_in, Cond.code yX10_in cX10_in 4 (some .boolean), Cond.methodLink RX10 152 yX10_manyOf, Cond.instanceMethod yX10_manyOf, Cond.selects RX10 yX10_manyOf yX10_manyOf, Cond.code yX10_manyOf cX10_manyOf 4 (some .int), Cond.methodLink RX10 146 yX10_isCleared, Cond.instanceMethod yX10_isCleared, Cond.selects RX10 yX10_isCleared yX10_isCleared, Cond.code yX10_isCleared cX10_isCleared 3 (some .boolean), Cond.fieldLink RX10 35 "CreepBoardModel" "isRead" "[Z", Cond.methodLink RX10 128 yX10_spot, Cond.instanceMethod yX10_spot, Cond.selects RX10 yX10_spot yX10_spot, Cond.code yX10_spot cX10_spot 3 (some .int), Cond.methodLink RX10 132 yX10_isLeftOut]
def wsX10_many_r2 : List Cond := [Cond.instanceMethod yX10_isLeftOut, Cond.selects RX10 yX10_isLeftOut yX10_isLeftOut, Cond.code yX10_isLeftOut cX10_isLeftOut 5 (some .boolean), Cond.fieldLink RX10 16 "CreepBoardModel" "kind" "[I"]
def wsX10_many : List Cond := .code yX10_many cX10_many 2 (some .int) :: ((wsX10_many_r1 ++ wsX10_many_r2) ++ wsX100)
def wsX10_divisor : List Cond := .code yX10_divisor cX10_divisor 11 (some .long) :: ([])
def wsX10_lowest : List Cond := .code yX10_lowest cX10_lowest 8 (some .long) :: ([.methodLink RX10 156 yX10_divisor, .instanceMethod yX10_divisor, .selects RX10 yX10_divisor yX10_divisor, .initialized RX10, .code yX10_divisor cX10_divisor 11 (some .long)])
def wsX10_rate_r1 : List Cond := [Cond.fieldLink RX10 7 "CreepBoardModel" "thrown" "I", Cond.methodLink RX10 116 yX10_isMark, Cond.instanceMethod yX10_isMark, Cond.selects RX10 yX10_isMark yX10_isMark, Cond.initialized RX10, Cond.code yX10_isMark cX10_isMark 2 (some .boolean), Cond.fieldLink RX10 13 "CreepBoardModel" "marks" "I", Cond.methodLink RX10 112 yX10_in, Cond.instanceMethod yX10_in, Cond.selects RX10 yX10_in yX10_in, Cond.code yX10_in cX10_in 4 (some .boolean), Cond.methodLink RX10 143 yX10_isSide, Cond.instanceMethod yX10_isSide, Cond.selects RX10 yX10_isSide yX10_isSide, Cond.code yX10_isSide cX10_isSide 2 (some .boolean), Cond.methodLink RX10 152 yX10_manyOf, Cond.instanceMethod yX10_manyOf, Cond.selects RX10 yX10_manyOf yX10_manyOf, Cond.code yX10_manyOf cX10_manyOf 4 (some .int), Cond.methodLink RX10 146 yX10_isCleared, Cond.instanceMethod yX10_isCleared, Cond.selects RX10 yX10_isCleared yX10_isCleared, Cond.code yX10_isCleared cX10_isCleared 3 (some .boolean), Cond.fieldLink RX10 35 "CreepBoardModel" "isRead" "[Z"]
def wsX10_rate_r2 : List Cond := [Cond.methodLink RX10 128 yX10_spot, Cond.instanceMethod yX10_spot, Cond.selects RX10 yX10_spot yX10_spot, Cond.code yX10_spot cX10_spot 3 (some .int), Cond.methodLink RX10 132 yX10_isLeftOut, Cond.instanceMethod yX10_isLeftOut, Cond.selects RX10 yX10_isLeftOut yX10_isLeftOut, Cond.code yX10_isLeftOut cX10_isLeftOut 5 (some .boolean), Cond.fieldLink RX10 16 "CreepBoardModel" "kind" "[I", Cond.methodLink RX10 149 yX10_clear, Cond.instanceMethod yX10_clear, Cond.selects RX10 yX10_clear yX10_clear, Cond.code yX10_clear cX10_clear 6 (some .long), Cond.fieldLink RX10 29 "CreepBoardModel" "since" "[I", Cond.fieldLink RX10 26 "CreepBoardModel" "offset" "[I", Cond.methodLink RX10 136 yX10_withoutSteps, Cond.instanceMethod yX10_withoutSteps, Cond.selects RX10 yX10_withoutSteps yX10_withoutSteps, Cond.code yX10_withoutSteps cX10_withoutSteps 7 (some .long), Cond.fieldLink RX10 39 "CreepBoardModel" "reading" "[I", Cond.fieldLink RX10 32 "CreepBoardModel" "steps" "[I", Cond.fieldLink RX10 42 "CreepBoardModel" "stepAt" "[I", Cond.fieldLink RX10 45 "CreepBoardModel" "step" "[I", Cond.methodLink RX10 123 yX10_hasAntenna]
def wsX10_rate_r3 : List Cond := [Cond.instanceMethod yX10_hasAntenna, Cond.selects RX10 yX10_hasAntenna yX10_hasAntenna, Cond.code yX10_hasAntenna cX10_hasAntenna 2 (some .boolean), Cond.methodLink RX10 140 yX10_meanOf, Cond.instanceMethod yX10_meanOf, Cond.selects RX10 yX10_meanOf yX10_meanOf, Cond.code yX10_meanOf cX10_meanOf 8 (some .long), Cond.methodLink RX10 160 yX10_lowest, Cond.instanceMethod yX10_lowest, Cond.selects RX10 yX10_lowest yX10_lowest, Cond.code yX10_lowest cX10_lowest 8 (some .long), Cond.methodLink RX10 156 yX10_divisor, Cond.instanceMethod yX10_divisor, Cond.selects RX10 yX10_divisor yX10_divisor, Cond.code yX10_divisor cX10_divisor 11 (some .long)]
def wsX10_rate : List Cond := .code yX10_rate cX10_rate 17 (some .long) :: ((wsX10_rate_r1 ++ (wsX10_rate_r2 ++ wsX10_rate_r3)) ++ wsX100)
def wsX10_jump_r1 : List Cond := [Cond.methodLink RX10 116 yX10_isMark, Cond.instanceMethod yX10_isMark, Cond.selects RX10 yX10_isMark yX10_isMark, Cond.initialized RX10, Cond.code yX10_isMark cX10_isMark 2 (some .boolean), Cond.fieldLink RX10 13 "CreepBoardModel" "marks" "I", Cond.methodLink RX10 112 yX10_in, Cond.instanceMethod yX10_in, Cond.selects RX10 yX10_in yX10_in, Cond.code yX10_in cX10_in 4 (some .boolean), Cond.methodLink RX10 143 yX10_isSide, Cond.instanceMethod yX10_isSide, Cond.selects RX10 yX10_isSide yX10_isSide, Cond.code yX10_isSide cX10_isSide 2 (some .boolean), Cond.methodLink RX10 152 yX10_manyOf, Cond.instanceMethod yX10_manyOf, Cond.selects RX10 yX10_manyOf yX10_manyOf, Cond.code yX10_manyOf cX10_manyOf 4 (some .int), Cond.methodLink RX10 146 yX10_isCleared, Cond.instanceMethod yX10_isCleared, Cond.selects RX10 yX10_isCleared yX10_isCleared, Cond.code yX10_isCleared cX10_isCleared 3 (some .boolean), Cond.fieldLink RX10 35 "CreepBoardModel" "isRead" "[Z", Cond.methodLink RX10 128 yX10_spot]
def wsX10_jump_r2 : List Cond := [Cond.instanceMethod yX10_spot, Cond.selects RX10 yX10_spot yX10_spot, Cond.code yX10_spot cX10_spot 3 (some .int), Cond.methodLink RX10 132 yX10_isLeftOut, Cond.instanceMethod yX10_isLeftOut, Cond.selects RX10 yX10_isLeftOut yX10_isLeftOut, Cond.code yX10_isLeftOut cX10_isLeftOut 5 (some .boolean), Cond.fieldLink RX10 16 "CreepBoardModel" "kind" "[I", Cond.methodLink RX10 149 yX10_clear, Cond.instanceMethod yX10_clear, Cond.selects RX10 yX10_clear yX10_clear, Cond.code yX10_clear cX10_clear 6 (some .long), Cond.fieldLink RX10 29 "CreepBoardModel" "since" "[I", Cond.fieldLink RX10 26 "CreepBoardModel" "offset" "[I", Cond.methodLink RX10 136 yX10_withoutSteps, Cond.instanceMethod yX10_withoutSteps, Cond.selects RX10 yX10_withoutSteps yX10_withoutSteps, Cond.code yX10_withoutSteps cX10_withoutSteps 7 (some .long), Cond.fieldLink RX10 39 "CreepBoardModel" "reading" "[I", Cond.fieldLink RX10 32 "CreepBoardModel" "steps" "[I", Cond.fieldLink RX10 42 "CreepBoardModel" "stepAt" "[I", Cond.fieldLink RX10 45 "CreepBoardModel" "step" "[I", Cond.methodLink RX10 123 yX10_hasAntenna, Cond.instanceMethod yX10_hasAntenna]
def wsX10_jump_r3 : List Cond := [Cond.selects RX10 yX10_hasAntenna yX10_hasAntenna, Cond.code yX10_hasAntenna cX10_hasAntenna 2 (some .boolean), Cond.methodLink RX10 140 yX10_meanOf, Cond.instanceMethod yX10_meanOf, Cond.selects RX10 yX10_meanOf yX10_meanOf, Cond.code yX10_meanOf cX10_meanOf 8 (some .long)]
def wsX10_jump : List Cond := .code yX10_jump cX10_jump 19 (some .int) :: ((wsX10_jump_r1 ++ (wsX10_jump_r2 ++ wsX10_jump_r3)) ++ wsX100)
def wsX10_firstOf_r1 : List Cond := [Cond.methodLink RX10 146 yX10_isCleared, Cond.instanceMethod yX10_isCleared, Cond.selects RX10 yX10_isCleared yX10_isCleared, Cond.initialized RX10, Cond.code yX10_isCleared cX10_isCleared 3 (some .boolean), Cond.fieldLink RX10 35 "CreepBoardModel" "isRead" "[Z", Cond.methodLink RX10 128 yX10_spot, Cond.instanceMethod yX10_spot, Cond.selects RX10 yX10_spot yX10_spot, Cond.code yX10_spot cX10_spot 3 (some .int), Cond.methodLink RX10 132 yX10_isLeftOut, Cond.instanceMethod yX10_isLeftOut, Cond.selects RX10 yX10_isLeftOut yX10_isLeftOut, Cond.code yX10_isLeftOut cX10_isLeftOut 5 (some .boolean), Cond.fieldLink RX10 16 "CreepBoardModel" "kind" "[I", Cond.methodLink RX10 149 yX10_clear, Cond.instanceMethod yX10_clear, Cond.selects RX10 yX10_clear yX10_clear, Cond.code yX10_clear cX10_clear 6 (some .long), Cond.fieldLink RX10 29 "CreepBoardModel" "since" "[I", Cond.fieldLink RX10 26 "CreepBoardModel" "offset" "[I", Cond.methodLink RX10 136 yX10_withoutSteps, Cond.instanceMethod yX10_withoutSteps, Cond.selects RX10 yX10_withoutSteps yX10_withoutSteps]
def wsX10_firstOf_r2 : List Cond := [Cond.code yX10_withoutSteps cX10_withoutSteps 7 (some .long), Cond.fieldLink RX10 39 "CreepBoardModel" "reading" "[I", Cond.fieldLink RX10 32 "CreepBoardModel" "steps" "[I", Cond.fieldLink RX10 42 "CreepBoardModel" "stepAt" "[I", Cond.fieldLink RX10 45 "CreepBoardModel" "step" "[I", Cond.methodLink RX10 123 yX10_hasAntenna, Cond.instanceMethod yX10_hasAntenna, Cond.selects RX10 yX10_hasAntenna yX10_hasAntenna, Cond.code yX10_hasAntenna cX10_hasAntenna 2 (some .boolean), Cond.methodLink RX10 140 yX10_meanOf, Cond.instanceMethod yX10_meanOf, Cond.selects RX10 yX10_meanOf yX10_meanOf, Cond.code yX10_meanOf cX10_meanOf 8 (some .long)]
def wsX10_firstOf : List Cond := .code yX10_firstOf cX10_firstOf 4 (some .long) :: ((wsX10_firstOf_r1 ++ wsX10_firstOf_r2) ++ wsX100)
def wsX10_common_r1 : List Cond := [Cond.fieldLink RX10 13 "CreepBoardModel" "marks" "I", Cond.fieldLink RX10 7 "CreepBoardModel" "thrown" "I", Cond.methodLink RX10 120 yX10_isEpoch, Cond.instanceMethod yX10_isEpoch, Cond.selects RX10 yX10_isEpoch yX10_isEpoch, Cond.initialized RX10, Cond.code yX10_isEpoch cX10_isEpoch 2 (some .boolean), Cond.methodLink RX10 112 yX10_in, Cond.instanceMethod yX10_in, Cond.selects RX10 yX10_in yX10_in, Cond.code yX10_in cX10_in 4 (some .boolean), Cond.methodLink RX10 143 yX10_isSide, Cond.instanceMethod yX10_isSide, Cond.selects RX10 yX10_isSide yX10_isSide, Cond.code yX10_isSide cX10_isSide 2 (some .boolean), Cond.methodLink RX10 146 yX10_isCleared, Cond.instanceMethod yX10_isCleared, Cond.selects RX10 yX10_isCleared yX10_isCleared, Cond.code yX10_isCleared cX10_isCleared 3 (some .boolean), Cond.fieldLink RX10 35 "CreepBoardModel" "isRead" "[Z", Cond.methodLink RX10 128 yX10_spot, Cond.instanceMethod yX10_spot, Cond.selects RX10 yX10_spot yX10_spot, Cond.code yX10_spot cX10_spot 3 (some .int)]
def wsX10_common_r2 : List Cond := [Cond.methodLink RX10 132 yX10_isLeftOut, Cond.instanceMethod yX10_isLeftOut, Cond.selects RX10 yX10_isLeftOut yX10_isLeftOut, Cond.code yX10_isLeftOut cX10_isLeftOut 5 (some .boolean), Cond.fieldLink RX10 16 "CreepBoardModel" "kind" "[I", Cond.methodLink RX10 149 yX10_clear, Cond.instanceMethod yX10_clear, Cond.selects RX10 yX10_clear yX10_clear, Cond.code yX10_clear cX10_clear 6 (some .long), Cond.fieldLink RX10 29 "CreepBoardModel" "since" "[I", Cond.fieldLink RX10 26 "CreepBoardModel" "offset" "[I", Cond.methodLink RX10 136 yX10_withoutSteps, Cond.instanceMethod yX10_withoutSteps, Cond.selects RX10 yX10_withoutSteps yX10_withoutSteps, Cond.code yX10_withoutSteps cX10_withoutSteps 7 (some .long), Cond.fieldLink RX10 39 "CreepBoardModel" "reading" "[I", Cond.fieldLink RX10 32 "CreepBoardModel" "steps" "[I", Cond.fieldLink RX10 42 "CreepBoardModel" "stepAt" "[I", Cond.fieldLink RX10 45 "CreepBoardModel" "step" "[I", Cond.methodLink RX10 123 yX10_hasAntenna, Cond.instanceMethod yX10_hasAntenna, Cond.selects RX10 yX10_hasAntenna yX10_hasAntenna, Cond.code yX10_hasAntenna cX10_hasAntenna 2 (some .boolean), Cond.methodLink RX10 140 yX10_meanOf]
def wsX10_common_r3 : List Cond := [Cond.instanceMethod yX10_meanOf, Cond.selects RX10 yX10_meanOf yX10_meanOf, Cond.code yX10_meanOf cX10_meanOf 8 (some .long), Cond.methodLink RX10 164 yX10_firstOf, Cond.instanceMethod yX10_firstOf, Cond.selects RX10 yX10_firstOf yX10_firstOf, Cond.code yX10_firstOf cX10_firstOf 4 (some .long)]
def wsX10_common : List Cond := .code yX10_common cX10_common 7 (some .long) :: ((wsX10_common_r1 ++ (wsX10_common_r2 ++ wsX10_common_r3)) ++ wsX100)
def wsX10_velocity : List Cond := .code yX10_velocity cX10_velocity 5 (some .int) :: ([.fieldLink RX10 48 "CreepBoardModel" "east" "[I", .fieldLink RX10 51 "CreepBoardModel" "north" "[I", .methodLink RX10 116 yX10_isMark, .instanceMethod yX10_isMark, .selects RX10 yX10_isMark yX10_isMark, .initialized RX10, .code yX10_isMark cX10_isMark 2 (some .boolean), .fieldLink RX10 13 "CreepBoardModel" "marks" "I", .methodLink RX10 112 yX10_in, .instanceMethod yX10_in, .selects RX10 yX10_in yX10_in, .code yX10_in cX10_in 4 (some .boolean)] ++ wsX100)
def wsX10_moves : List Cond := .code yX10_moves cX10_moves 3 (some .long) :: ([.fieldLink RX10 7 "CreepBoardModel" "thrown" "I", .fieldLink RX10 48 "CreepBoardModel" "east" "[I", .fieldLink RX10 51 "CreepBoardModel" "north" "[I", .methodLink RX10 116 yX10_isMark, .instanceMethod yX10_isMark, .selects RX10 yX10_isMark yX10_isMark, .initialized RX10, .code yX10_isMark cX10_isMark 2 (some .boolean), .fieldLink RX10 13 "CreepBoardModel" "marks" "I", .methodLink RX10 112 yX10_in, .instanceMethod yX10_in, .selects RX10 yX10_in yX10_in, .code yX10_in cX10_in 4 (some .boolean), .methodLink RX10 143 yX10_isSide, .instanceMethod yX10_isSide, .selects RX10 yX10_isSide yX10_isSide, .code yX10_isSide cX10_isSide 2 (some .boolean)] ++ wsX100)
def wsX10_frame : List Cond := .code yX10_frame cX10_frame 5 (some .int) :: ([.fieldLink RX10 13 "CreepBoardModel" "marks" "I", .fieldLink RX10 48 "CreepBoardModel" "east" "[I", .fieldLink RX10 23 "CreepBoardModel" "y" "[I", .constant RX10 126 (-100000), .constant RX10 127 (100000), .fieldLink RX10 51 "CreepBoardModel" "north" "[I", .fieldLink RX10 20 "CreepBoardModel" "x" "[I", .methodLink RX10 112 yX10_in, .instanceMethod yX10_in, .selects RX10 yX10_in yX10_in, .initialized RX10, .code yX10_in cX10_in 4 (some .boolean)] ++ wsX100)
def wsX10_strain : List Cond := .code yX10_strain cX10_strain 30 (some .long) :: ([.fieldLink RX10 7 "CreepBoardModel" "thrown" "I", .fieldLink RX10 20 "CreepBoardModel" "x" "[I", .fieldLink RX10 23 "CreepBoardModel" "y" "[I", .fieldLink RX10 48 "CreepBoardModel" "east" "[I", .fieldLink RX10 51 "CreepBoardModel" "north" "[I", .methodLink RX10 116 yX10_isMark, .instanceMethod yX10_isMark, .selects RX10 yX10_isMark yX10_isMark, .initialized RX10, .code yX10_isMark cX10_isMark 2 (some .boolean), .fieldLink RX10 13 "CreepBoardModel" "marks" "I", .methodLink RX10 112 yX10_in, .instanceMethod yX10_in, .selects RX10 yX10_in yX10_in, .code yX10_in cX10_in 4 (some .boolean), .methodLink RX10 160 yX10_lowest, .instanceMethod yX10_lowest, .selects RX10 yX10_lowest yX10_lowest, .code yX10_lowest cX10_lowest 8 (some .long), .methodLink RX10 156 yX10_divisor, .instanceMethod yX10_divisor, .selects RX10 yX10_divisor yX10_divisor, .code yX10_divisor cX10_divisor 11 (some .long)] ++ wsX100)
def wsX10_isBlock : List Cond := .code yX10_isBlock cX10_isBlock 18 (some .boolean) :: ([.fieldLink RX10 13 "CreepBoardModel" "marks" "I", .fieldLink RX10 20 "CreepBoardModel" "x" "[I", .fieldLink RX10 23 "CreepBoardModel" "y" "[I", .fieldLink RX10 48 "CreepBoardModel" "east" "[I", .fieldLink RX10 51 "CreepBoardModel" "north" "[I"] ++ wsX100)
def wsX10_block : List Cond := .code yX10_block cX10_block 2 (some .int) :: ([.fieldLink RX10 13 "CreepBoardModel" "marks" "I", .methodLink RX10 112 yX10_in, .instanceMethod yX10_in, .selects RX10 yX10_in yX10_in, .initialized RX10, .code yX10_in cX10_in 4 (some .boolean), .methodLink RX10 168 yX10_isBlock, .instanceMethod yX10_isBlock, .selects RX10 yX10_isBlock yX10_isBlock, .code yX10_isBlock cX10_isBlock 18 (some .boolean), .fieldLink RX10 20 "CreepBoardModel" "x" "[I", .fieldLink RX10 23 "CreepBoardModel" "y" "[I", .fieldLink RX10 48 "CreepBoardModel" "east" "[I", .fieldLink RX10 51 "CreepBoardModel" "north" "[I"] ++ wsX100)
def wsX10_findBlocks : List Cond := .code yX10_findBlocks cX10_findBlocks 6 none :: ([.fieldLink RX10 13 "CreepBoardModel" "marks" "I", .fieldLink RX10 54 "CreepBoardModel" "fewest" "[I", .fieldLink RX10 60 "CreepBoardModel" "isOne" "[Z", .fieldLink RX10 57 "CreepBoardModel" "ofMark" "[I", .methodLink RX10 168 yX10_isBlock, .instanceMethod yX10_isBlock, .selects RX10 yX10_isBlock yX10_isBlock, .initialized RX10, .code yX10_isBlock cX10_isBlock 18 (some .boolean), .fieldLink RX10 20 "CreepBoardModel" "x" "[I", .fieldLink RX10 23 "CreepBoardModel" "y" "[I", .fieldLink RX10 48 "CreepBoardModel" "east" "[I", .fieldLink RX10 51 "CreepBoardModel" "north" "[I"] ++ wsX100)
def wsX10_blocks : List Cond := .code yX10_blocks cX10_blocks 1 (some .int) :: ([.fieldLink RX10 13 "CreepBoardModel" "marks" "I", .fieldLink RX10 54 "CreepBoardModel" "fewest" "[I", .methodLink RX10 171 yX10_findBlocks, .instanceMethod yX10_findBlocks, .selects RX10 yX10_findBlocks yX10_findBlocks, .initialized RX10, .code yX10_findBlocks cX10_findBlocks 6 none, .fieldLink RX10 60 "CreepBoardModel" "isOne" "[Z", .fieldLink RX10 57 "CreepBoardModel" "ofMark" "[I", .methodLink RX10 168 yX10_isBlock, .instanceMethod yX10_isBlock, .selects RX10 yX10_isBlock yX10_isBlock, .code yX10_isBlock cX10_isBlock 18 (some .boolean), .fieldLink RX10 20 "CreepBoardModel" "x" "[I", .fieldLink RX10 23 "CreepBoardModel" "y" "[I", .fieldLink RX10 48 "CreepBoardModel" "east" "[I", .fieldLink RX10 51 "CreepBoardModel" "north" "[I"] ++ wsX100)
def wsX10_of_r1 : List Cond := [Cond.fieldLink RX10 57 "CreepBoardModel" "ofMark" "[I", Cond.methodLink RX10 116 yX10_isMark, Cond.instanceMethod yX10_isMark, Cond.selects RX10 yX10_isMark yX10_isMark, Cond.initialized RX10, Cond.code yX10_isMark cX10_isMark 2 (some .boolean), Cond.fieldLink RX10 13 "CreepBoardModel" "marks" "I", Cond.methodLink RX10 112 yX10_in, Cond.instanceMethod yX10_in, Cond.selects RX10 yX10_in yX10_in, Cond.code yX10_in cX10_in 4 (some .boolean), Cond.methodLink RX10 171 yX10_findBlocks, Cond.instanceMethod yX10_findBlocks, Cond.selects RX10 yX10_findBlocks yX10_findBlocks, Cond.code yX10_findBlocks cX10_findBlocks 6 none, Cond.fieldLink RX10 54 "CreepBoardModel" "fewest" "[I", Cond.fieldLink RX10 60 "CreepBoardModel" "isOne" "[Z", Cond.methodLink RX10 168 yX10_isBlock, Cond.instanceMethod yX10_isBlock, Cond.selects RX10 yX10_isBlock yX10_isBlock, Cond.code yX10_isBlock cX10_isBlock 18 (some .boolean), Cond.fieldLink RX10 20 "CreepBoardModel" "x" "[I", Cond.fieldLink RX10 23 "CreepBoardModel" "y" "[I", Cond.fieldLink RX10 48 "CreepBoardModel" "east" "[I"]
def wsX10_of_r2 : List Cond := [Cond.fieldLink RX10 51 "CreepBoardModel" "north" "[I"]
def wsX10_of : List Cond := .code yX10_of cX10_of 2 (some .int) :: ((wsX10_of_r1 ++ wsX10_of_r2) ++ wsX100)
def wsX10_green : List Cond := .code yX10_green cX10_green 5 (some .int) :: ([.fieldLink RX10 66 "CreepBoardModel" "green" "[I", .methodLink RX10 116 yX10_isMark, .instanceMethod yX10_isMark, .selects RX10 yX10_isMark yX10_isMark, .initialized RX10, .code yX10_isMark cX10_isMark 2 (some .boolean), .fieldLink RX10 13 "CreepBoardModel" "marks" "I", .methodLink RX10 112 yX10_in, .instanceMethod yX10_in, .selects RX10 yX10_in yX10_in, .code yX10_in cX10_in 4 (some .boolean)] ++ wsX100)
def wsX10_tolerance : List Cond := .code yX10_tolerance cX10_tolerance 3 (some .int) :: ([.fieldLink RX10 63 "CreepBoardModel" "tolerance" "I", .methodLink RX10 112 yX10_in, .instanceMethod yX10_in, .selects RX10 yX10_in yX10_in, .initialized RX10, .code yX10_in cX10_in 4 (some .boolean)] ++ wsX100)
def wsX10_doFit : List Cond := .code yX10_doFit cX10_doFit 6 (some .boolean) :: ([.fieldLink RX10 13 "CreepBoardModel" "marks" "I", .fieldLink RX10 66 "CreepBoardModel" "green" "[I", .fieldLink RX10 48 "CreepBoardModel" "east" "[I", .fieldLink RX10 63 "CreepBoardModel" "tolerance" "I", .methodLink RX10 112 yX10_in, .instanceMethod yX10_in, .selects RX10 yX10_in yX10_in, .initialized RX10, .code yX10_in cX10_in 4 (some .boolean)] ++ wsX100)
def wsX10_findSlips : List Cond := .code yX10_findSlips cX10_findSlips 4 none :: ([.fieldLink RX10 69 "CreepBoardModel" "fitting" "I", .fieldLink RX10 72 "CreepBoardModel" "leastSlip" "[I", .fieldLink RX10 75 "CreepBoardModel" "mostSlip" "[I", .methodLink RX10 174 yX10_doFit, .instanceMethod yX10_doFit, .selects RX10 yX10_doFit yX10_doFit, .initialized RX10, .code yX10_doFit cX10_doFit 6 (some .boolean), .fieldLink RX10 13 "CreepBoardModel" "marks" "I", .fieldLink RX10 66 "CreepBoardModel" "green" "[I", .fieldLink RX10 48 "CreepBoardModel" "east" "[I", .fieldLink RX10 63 "CreepBoardModel" "tolerance" "I", .methodLink RX10 112 yX10_in, .instanceMethod yX10_in, .selects RX10 yX10_in yX10_in, .code yX10_in cX10_in 4 (some .boolean)] ++ wsX100)
def wsX10_fits : List Cond := .code yX10_fits cX10_fits 1 (some .int) :: ([.fieldLink RX10 69 "CreepBoardModel" "fitting" "I", .methodLink RX10 177 yX10_findSlips, .instanceMethod yX10_findSlips, .selects RX10 yX10_findSlips yX10_findSlips, .initialized RX10, .code yX10_findSlips cX10_findSlips 4 none, .fieldLink RX10 72 "CreepBoardModel" "leastSlip" "[I", .fieldLink RX10 75 "CreepBoardModel" "mostSlip" "[I", .methodLink RX10 174 yX10_doFit, .instanceMethod yX10_doFit, .selects RX10 yX10_doFit yX10_doFit, .code yX10_doFit cX10_doFit 6 (some .boolean), .fieldLink RX10 13 "CreepBoardModel" "marks" "I", .fieldLink RX10 66 "CreepBoardModel" "green" "[I", .fieldLink RX10 48 "CreepBoardModel" "east" "[I", .fieldLink RX10 63 "CreepBoardModel" "tolerance" "I", .methodLink RX10 112 yX10_in, .instanceMethod yX10_in, .selects RX10 yX10_in yX10_in, .code yX10_in cX10_in 4 (some .boolean)] ++ wsX100)
def wsX10_slip : List Cond := .code yX10_slip cX10_slip 3 (some .int) :: ([.fieldLink RX10 69 "CreepBoardModel" "fitting" "I", .fieldLink RX10 75 "CreepBoardModel" "mostSlip" "[I", .fieldLink RX10 72 "CreepBoardModel" "leastSlip" "[I", .methodLink RX10 112 yX10_in, .instanceMethod yX10_in, .selects RX10 yX10_in yX10_in, .initialized RX10, .code yX10_in cX10_in 4 (some .boolean), .methodLink RX10 177 yX10_findSlips, .instanceMethod yX10_findSlips, .selects RX10 yX10_findSlips yX10_findSlips, .code yX10_findSlips cX10_findSlips 4 none, .methodLink RX10 174 yX10_doFit, .instanceMethod yX10_doFit, .selects RX10 yX10_doFit yX10_doFit, .code yX10_doFit cX10_doFit 6 (some .boolean), .fieldLink RX10 13 "CreepBoardModel" "marks" "I", .fieldLink RX10 66 "CreepBoardModel" "green" "[I", .fieldLink RX10 48 "CreepBoardModel" "east" "[I", .fieldLink RX10 63 "CreepBoardModel" "tolerance" "I"] ++ wsX100)
def wsX10_locked : List Cond := .code yX10_locked cX10_locked 3 (some .int) :: ([.fieldLink RX10 69 "CreepBoardModel" "fitting" "I", .fieldLink RX10 75 "CreepBoardModel" "mostSlip" "[I", .methodLink RX10 177 yX10_findSlips, .instanceMethod yX10_findSlips, .selects RX10 yX10_findSlips yX10_findSlips, .initialized RX10, .code yX10_findSlips cX10_findSlips 4 none, .fieldLink RX10 72 "CreepBoardModel" "leastSlip" "[I", .methodLink RX10 174 yX10_doFit, .instanceMethod yX10_doFit, .selects RX10 yX10_doFit yX10_doFit, .code yX10_doFit cX10_doFit 6 (some .boolean), .fieldLink RX10 13 "CreepBoardModel" "marks" "I", .fieldLink RX10 66 "CreepBoardModel" "green" "[I", .fieldLink RX10 48 "CreepBoardModel" "east" "[I", .fieldLink RX10 63 "CreepBoardModel" "tolerance" "I", .methodLink RX10 112 yX10_in, .instanceMethod yX10_in, .selects RX10 yX10_in yX10_in, .code yX10_in cX10_in 4 (some .boolean)] ++ wsX100)
def wsX10_line : List Cond := .code yX10_line cX10_line 4 (some .int) :: ([.fieldLink RX10 78 "CreepBoardModel" "lines" "I", .fieldLink RX10 81 "CreepBoardModel" "from" "[I", .fieldLink RX10 84 "CreepBoardModel" "to" "[I", .fieldLink RX10 87 "CreepBoardModel" "rise" "[I", .methodLink RX10 116 yX10_isMark, .instanceMethod yX10_isMark, .selects RX10 yX10_isMark yX10_isMark, .initialized RX10, .code yX10_isMark cX10_isMark 2 (some .boolean), .fieldLink RX10 13 "CreepBoardModel" "marks" "I", .methodLink RX10 112 yX10_in, .instanceMethod yX10_in, .selects RX10 yX10_in yX10_in, .code yX10_in cX10_in 4 (some .boolean)] ++ wsX100)
def wsX10_unline : List Cond := .code yX10_unline cX10_unline 1 (some .int) :: ([.fieldLink RX10 78 "CreepBoardModel" "lines" "I"] ++ wsX100)
def wsX10_agree : List Cond := .code yX10_agree cX10_agree 8 (some .boolean) :: ([.fieldLink RX10 13 "CreepBoardModel" "marks" "I", .fieldLink RX10 90 "CreepBoardModel" "group" "[I", .fieldLink RX10 93 "CreepBoardModel" "above" "[J", .fieldLink RX10 78 "CreepBoardModel" "lines" "I", .fieldLink RX10 81 "CreepBoardModel" "from" "[I", .fieldLink RX10 87 "CreepBoardModel" "rise" "[I", .fieldLink RX10 84 "CreepBoardModel" "to" "[I"] ++ wsX100)
def wsX10_ones : List Cond := .code yX10_ones cX10_ones 4 (some .int) :: ([])
def wsX10_findWrong : List Cond := .code yX10_findWrong cX10_findWrong 4 (some .int) :: ([.fieldLink RX10 78 "CreepBoardModel" "lines" "I", .methodLink RX10 180 yX10_ones, .instanceMethod yX10_ones, .selects RX10 yX10_ones yX10_ones, .initialized RX10, .code yX10_ones cX10_ones 4 (some .int), .methodLink RX10 183 yX10_agree, .instanceMethod yX10_agree, .selects RX10 yX10_agree yX10_agree, .code yX10_agree cX10_agree 8 (some .boolean), .fieldLink RX10 13 "CreepBoardModel" "marks" "I", .fieldLink RX10 90 "CreepBoardModel" "group" "[I", .fieldLink RX10 93 "CreepBoardModel" "above" "[J", .fieldLink RX10 81 "CreepBoardModel" "from" "[I", .fieldLink RX10 87 "CreepBoardModel" "rise" "[I", .fieldLink RX10 84 "CreepBoardModel" "to" "[I"] ++ wsX100)
def wsX10_wrong : List Cond := .code yX10_wrong cX10_wrong 2 (some .int) :: ([.methodLink RX10 186 yX10_findWrong, .instanceMethod yX10_findWrong, .selects RX10 yX10_findWrong yX10_findWrong, .initialized RX10, .code yX10_findWrong cX10_findWrong 4 (some .int), .fieldLink RX10 78 "CreepBoardModel" "lines" "I", .methodLink RX10 180 yX10_ones, .instanceMethod yX10_ones, .selects RX10 yX10_ones yX10_ones, .code yX10_ones cX10_ones 4 (some .int), .methodLink RX10 183 yX10_agree, .instanceMethod yX10_agree, .selects RX10 yX10_agree yX10_agree, .code yX10_agree cX10_agree 8 (some .boolean), .fieldLink RX10 13 "CreepBoardModel" "marks" "I", .fieldLink RX10 90 "CreepBoardModel" "group" "[I", .fieldLink RX10 93 "CreepBoardModel" "above" "[J", .fieldLink RX10 81 "CreepBoardModel" "from" "[I", .fieldLink RX10 87 "CreepBoardModel" "rise" "[I", .fieldLink RX10 84 "CreepBoardModel" "to" "[I"] ++ wsX100)
def wsX10_height_r1 : List Cond := [Cond.fieldLink RX10 7 "CreepBoardModel" "thrown" "I", Cond.fieldLink RX10 90 "CreepBoardModel" "group" "[I", Cond.fieldLink RX10 93 "CreepBoardModel" "above" "[J", Cond.methodLink RX10 116 yX10_isMark, Cond.instanceMethod yX10_isMark, Cond.selects RX10 yX10_isMark yX10_isMark, Cond.initialized RX10, Cond.code yX10_isMark cX10_isMark 2 (some .boolean), Cond.fieldLink RX10 13 "CreepBoardModel" "marks" "I", Cond.methodLink RX10 112 yX10_in, Cond.instanceMethod yX10_in, Cond.selects RX10 yX10_in yX10_in, Cond.code yX10_in cX10_in 4 (some .boolean), Cond.methodLink RX10 186 yX10_findWrong, Cond.instanceMethod yX10_findWrong, Cond.selects RX10 yX10_findWrong yX10_findWrong, Cond.code yX10_findWrong cX10_findWrong 4 (some .int), Cond.fieldLink RX10 78 "CreepBoardModel" "lines" "I", Cond.methodLink RX10 180 yX10_ones, Cond.instanceMethod yX10_ones, Cond.selects RX10 yX10_ones yX10_ones, Cond.code yX10_ones cX10_ones 4 (some .int), Cond.methodLink RX10 183 yX10_agree, Cond.instanceMethod yX10_agree]
def wsX10_height_r2 : List Cond := [Cond.selects RX10 yX10_agree yX10_agree, Cond.code yX10_agree cX10_agree 8 (some .boolean), Cond.fieldLink RX10 81 "CreepBoardModel" "from" "[I", Cond.fieldLink RX10 87 "CreepBoardModel" "rise" "[I", Cond.fieldLink RX10 84 "CreepBoardModel" "to" "[I"]
def wsX10_height : List Cond := .code yX10_height cX10_height 3 (some .long) :: ((wsX10_height_r1 ++ wsX10_height_r2) ++ wsX100)
def wsX10_readingsOf : List Cond := .code yX10_readingsOf cX10_readingsOf 4 (some .int) :: ([.fieldLink RX10 35 "CreepBoardModel" "isRead" "[Z", .methodLink RX10 128 yX10_spot, .instanceMethod yX10_spot, .selects RX10 yX10_spot yX10_spot, .initialized RX10, .code yX10_spot cX10_spot 3 (some .int)] ++ wsX100)
def wsX10_count : List Cond := .code yX10_count cX10_count 4 (some .int) :: ([.fieldLink RX10 13 "CreepBoardModel" "marks" "I", .fieldLink RX10 32 "CreepBoardModel" "steps" "[I", .fieldLink RX10 78 "CreepBoardModel" "lines" "I", .fieldLink RX10 63 "CreepBoardModel" "tolerance" "I", .methodLink RX10 190 yX10_readingsOf, .instanceMethod yX10_readingsOf, .selects RX10 yX10_readingsOf yX10_readingsOf, .initialized RX10, .code yX10_readingsOf cX10_readingsOf 4 (some .int), .fieldLink RX10 35 "CreepBoardModel" "isRead" "[Z", .methodLink RX10 128 yX10_spot, .instanceMethod yX10_spot, .selects RX10 yX10_spot yX10_spot, .code yX10_spot cX10_spot 3 (some .int)] ++ wsX100)
def wsX10_isShelf : List Cond := .code yX10_isShelf cX10_isShelf 2 (some .boolean) :: ([.methodLink RX10 112 yX10_in, .instanceMethod yX10_in, .selects RX10 yX10_in yX10_in, .initialized RX10, .code yX10_in cX10_in 4 (some .boolean)])
def wsX10_wipe : List Cond := .code yX10_wipe cX10_wipe 3 none :: ([.fieldLink RX10 106 "CreepBoardModel" "item" "[J"] ++ wsX100)
def wsX10_keep_r1 : List Cond := [Cond.fieldLink RX10 97 "CreepBoardModel" "held" "[I", Cond.fieldLink RX10 100 "CreepBoardModel" "heldMark" "[I", Cond.fieldLink RX10 103 "CreepBoardModel" "size" "[I", Cond.fieldLink RX10 106 "CreepBoardModel" "item" "[J", Cond.methodLink RX10 193 yX10_isShelf, Cond.instanceMethod yX10_isShelf, Cond.selects RX10 yX10_isShelf yX10_isShelf, Cond.initialized RX10, Cond.code yX10_isShelf cX10_isShelf 2 (some .boolean), Cond.methodLink RX10 112 yX10_in, Cond.instanceMethod yX10_in, Cond.selects RX10 yX10_in yX10_in, Cond.code yX10_in cX10_in 4 (some .boolean), Cond.methodLink RX10 116 yX10_isMark, Cond.instanceMethod yX10_isMark, Cond.selects RX10 yX10_isMark yX10_isMark, Cond.code yX10_isMark cX10_isMark 2 (some .boolean), Cond.fieldLink RX10 13 "CreepBoardModel" "marks" "I", Cond.methodLink RX10 196 yX10_wipe, Cond.instanceMethod yX10_wipe, Cond.selects RX10 yX10_wipe yX10_wipe, Cond.code yX10_wipe cX10_wipe 3 none, Cond.methodLink RX10 146 yX10_isCleared, Cond.instanceMethod yX10_isCleared]
def wsX10_keep_r2 : List Cond := [Cond.selects RX10 yX10_isCleared yX10_isCleared, Cond.code yX10_isCleared cX10_isCleared 3 (some .boolean), Cond.fieldLink RX10 35 "CreepBoardModel" "isRead" "[Z", Cond.methodLink RX10 128 yX10_spot, Cond.instanceMethod yX10_spot, Cond.selects RX10 yX10_spot yX10_spot, Cond.code yX10_spot cX10_spot 3 (some .int), Cond.methodLink RX10 132 yX10_isLeftOut, Cond.instanceMethod yX10_isLeftOut, Cond.selects RX10 yX10_isLeftOut yX10_isLeftOut, Cond.code yX10_isLeftOut cX10_isLeftOut 5 (some .boolean), Cond.fieldLink RX10 16 "CreepBoardModel" "kind" "[I", Cond.methodLink RX10 149 yX10_clear, Cond.instanceMethod yX10_clear, Cond.selects RX10 yX10_clear yX10_clear, Cond.code yX10_clear cX10_clear 6 (some .long), Cond.fieldLink RX10 29 "CreepBoardModel" "since" "[I", Cond.fieldLink RX10 26 "CreepBoardModel" "offset" "[I", Cond.methodLink RX10 136 yX10_withoutSteps, Cond.instanceMethod yX10_withoutSteps, Cond.selects RX10 yX10_withoutSteps yX10_withoutSteps, Cond.code yX10_withoutSteps cX10_withoutSteps 7 (some .long), Cond.fieldLink RX10 39 "CreepBoardModel" "reading" "[I", Cond.fieldLink RX10 32 "CreepBoardModel" "steps" "[I"]
def wsX10_keep_r3 : List Cond := [Cond.fieldLink RX10 42 "CreepBoardModel" "stepAt" "[I", Cond.fieldLink RX10 45 "CreepBoardModel" "step" "[I", Cond.methodLink RX10 123 yX10_hasAntenna, Cond.instanceMethod yX10_hasAntenna, Cond.selects RX10 yX10_hasAntenna yX10_hasAntenna, Cond.code yX10_hasAntenna cX10_hasAntenna 2 (some .boolean), Cond.methodLink RX10 140 yX10_meanOf, Cond.instanceMethod yX10_meanOf, Cond.selects RX10 yX10_meanOf yX10_meanOf, Cond.code yX10_meanOf cX10_meanOf 8 (some .long)]
def wsX10_keep : List Cond := .code yX10_keep cX10_keep 6 (some .int) :: ((wsX10_keep_r1 ++ (wsX10_keep_r2 ++ wsX10_keep_r3)) ++ wsX100)
def wsX10_make : List Cond := .code yX10_make cX10_make 4 (some .int) :: ([.fieldLink RX10 97 "CreepBoardModel" "held" "[I", .fieldLink RX10 103 "CreepBoardModel" "size" "[I", .methodLink RX10 193 yX10_isShelf, .instanceMethod yX10_isShelf, .selects RX10 yX10_isShelf yX10_isShelf, .initialized RX10, .code yX10_isShelf cX10_isShelf 2 (some .boolean), .methodLink RX10 112 yX10_in, .instanceMethod yX10_in, .selects RX10 yX10_in yX10_in, .code yX10_in cX10_in 4 (some .boolean), .methodLink RX10 196 yX10_wipe, .instanceMethod yX10_wipe, .selects RX10 yX10_wipe yX10_wipe, .code yX10_wipe cX10_wipe 3 none, .fieldLink RX10 106 "CreepBoardModel" "item" "[J"] ++ wsX100)
def wsX10_element : List Cond := .code yX10_element cX10_element 3 (some .long) :: ([.fieldLink RX10 97 "CreepBoardModel" "held" "[I", .fieldLink RX10 103 "CreepBoardModel" "size" "[I", .fieldLink RX10 7 "CreepBoardModel" "thrown" "I", .fieldLink RX10 106 "CreepBoardModel" "item" "[J", .methodLink RX10 193 yX10_isShelf, .instanceMethod yX10_isShelf, .selects RX10 yX10_isShelf yX10_isShelf, .initialized RX10, .code yX10_isShelf cX10_isShelf 2 (some .boolean), .methodLink RX10 112 yX10_in, .instanceMethod yX10_in, .selects RX10 yX10_in yX10_in, .code yX10_in cX10_in 4 (some .boolean)] ++ wsX100)
def wsX10_copy : List Cond := .code yX10_copy cX10_copy 7 (some .int) :: ([.fieldLink RX10 97 "CreepBoardModel" "held" "[I", .fieldLink RX10 103 "CreepBoardModel" "size" "[I", .fieldLink RX10 109 "CreepBoardModel" "aside" "[J", .fieldLink RX10 106 "CreepBoardModel" "item" "[J", .methodLink RX10 193 yX10_isShelf, .instanceMethod yX10_isShelf, .selects RX10 yX10_isShelf yX10_isShelf, .initialized RX10, .code yX10_isShelf cX10_isShelf 2 (some .boolean), .methodLink RX10 112 yX10_in, .instanceMethod yX10_in, .selects RX10 yX10_in yX10_in, .code yX10_in cX10_in 4 (some .boolean)] ++ wsX100)
def wsX10_weight_r1 : List Cond := [Cond.fieldLink RX10 97 "CreepBoardModel" "held" "[I", Cond.fieldLink RX10 100 "CreepBoardModel" "heldMark" "[I", Cond.fieldLink RX10 26 "CreepBoardModel" "offset" "[I", Cond.fieldLink RX10 16 "CreepBoardModel" "kind" "[I", Cond.methodLink RX10 193 yX10_isShelf, Cond.instanceMethod yX10_isShelf, Cond.selects RX10 yX10_isShelf yX10_isShelf, Cond.initialized RX10, Cond.code yX10_isShelf cX10_isShelf 2 (some .boolean), Cond.methodLink RX10 112 yX10_in, Cond.instanceMethod yX10_in, Cond.selects RX10 yX10_in yX10_in, Cond.code yX10_in cX10_in 4 (some .boolean), Cond.methodLink RX10 190 yX10_readingsOf, Cond.instanceMethod yX10_readingsOf, Cond.selects RX10 yX10_readingsOf yX10_readingsOf, Cond.code yX10_readingsOf cX10_readingsOf 4 (some .int), Cond.fieldLink RX10 35 "CreepBoardModel" "isRead" "[Z", Cond.methodLink RX10 128 yX10_spot, Cond.instanceMethod yX10_spot, Cond.selects RX10 yX10_spot yX10_spot, Cond.code yX10_spot cX10_spot 3 (some .int), Cond.methodLink RX10 123 yX10_hasAntenna, Cond.instanceMethod yX10_hasAntenna]
def wsX10_weight_r2 : List Cond := [Cond.selects RX10 yX10_hasAntenna yX10_hasAntenna, Cond.code yX10_hasAntenna cX10_hasAntenna 2 (some .boolean)]
def wsX10_weight : List Cond := .code yX10_weight cX10_weight 4 (some .int) :: ((wsX10_weight_r1 ++ wsX10_weight_r2) ++ wsX100)
def wsX10_toss : List Cond := .code yX10_toss cX10_toss 2 (some .int) :: ([.fieldLink RX10 97 "CreepBoardModel" "held" "[I", .fieldLink RX10 100 "CreepBoardModel" "heldMark" "[I", .methodLink RX10 193 yX10_isShelf, .instanceMethod yX10_isShelf, .selects RX10 yX10_isShelf yX10_isShelf, .initialized RX10, .code yX10_isShelf cX10_isShelf 2 (some .boolean), .methodLink RX10 112 yX10_in, .instanceMethod yX10_in, .selects RX10 yX10_in yX10_in, .code yX10_in cX10_in 4 (some .boolean), .methodLink RX10 123 yX10_hasAntenna, .instanceMethod yX10_hasAntenna, .selects RX10 yX10_hasAntenna yX10_hasAntenna, .code yX10_hasAntenna cX10_hasAntenna 2 (some .boolean), .fieldLink RX10 16 "CreepBoardModel" "kind" "[I"] ++ wsX100)
theorem dX10_init_0 : decode cX10_init 0 = .ok (.aload_n 0, 1) := by decide +kernel
theorem dX10_init_1 : decode cX10_init 1 = .ok (.invokespecial 1, 3) := by decide +kernel
theorem dX10_init_4 : decode cX10_init 4 = .ok (.aload_n 0, 1) := by decide +kernel
theorem dX10_init_5 : decode cX10_init 5 = .ok (.iconst 0, 1) := by decide +kernel
theorem dX10_init_6 : decode cX10_init 6 = .ok (.putfield 7, 3) := by decide +kernel
theorem dX10_init_9 : decode cX10_init 9 = .ok (.aload_n 0, 1) := by decide +kernel
theorem dX10_init_10 : decode cX10_init 10 = .ok (.iconst 0, 1) := by decide +kernel
theorem dX10_init_11 : decode cX10_init 11 = .ok (.putfield 13, 3) := by decide +kernel
theorem dX10_init_14 : decode cX10_init 14 = .ok (.aload_n 0, 1) := by decide +kernel
theorem dX10_init_15 : decode cX10_init 15 = .ok (.bipush 10, 2) := by decide +kernel
theorem dX10_init_17 : decode cX10_init 17 = .ok (.newarray .int, 2) := by decide +kernel
theorem dX10_init_19 : decode cX10_init 19 = .ok (.putfield 16, 3) := by decide +kernel
theorem dX10_init_22 : decode cX10_init 22 = .ok (.aload_n 0, 1) := by decide +kernel
theorem dX10_init_23 : decode cX10_init 23 = .ok (.bipush 10, 2) := by decide +kernel
theorem dX10_init_25 : decode cX10_init 25 = .ok (.newarray .int, 2) := by decide +kernel
theorem dX10_init_27 : decode cX10_init 27 = .ok (.putfield 20, 3) := by decide +kernel
theorem dX10_init_30 : decode cX10_init 30 = .ok (.aload_n 0, 1) := by decide +kernel
theorem dX10_init_31 : decode cX10_init 31 = .ok (.bipush 10, 2) := by decide +kernel
theorem dX10_init_33 : decode cX10_init 33 = .ok (.newarray .int, 2) := by decide +kernel
theorem dX10_init_35 : decode cX10_init 35 = .ok (.putfield 23, 3) := by decide +kernel
theorem dX10_init_38 : decode cX10_init 38 = .ok (.aload_n 0, 1) := by decide +kernel
theorem dX10_init_39 : decode cX10_init 39 = .ok (.bipush 10, 2) := by decide +kernel
theorem dX10_init_41 : decode cX10_init 41 = .ok (.newarray .int, 2) := by decide +kernel
theorem dX10_init_43 : decode cX10_init 43 = .ok (.putfield 26, 3) := by decide +kernel
theorem dX10_init_46 : decode cX10_init 46 = .ok (.aload_n 0, 1) := by decide +kernel
theorem dX10_init_47 : decode cX10_init 47 = .ok (.bipush 10, 2) := by decide +kernel
theorem dX10_init_49 : decode cX10_init 49 = .ok (.newarray .int, 2) := by decide +kernel
theorem dX10_init_51 : decode cX10_init 51 = .ok (.putfield 29, 3) := by decide +kernel
theorem dX10_init_54 : decode cX10_init 54 = .ok (.aload_n 0, 1) := by decide +kernel
theorem dX10_init_55 : decode cX10_init 55 = .ok (.bipush 10, 2) := by decide +kernel
theorem dX10_init_57 : decode cX10_init 57 = .ok (.newarray .int, 2) := by decide +kernel
theorem dX10_init_59 : decode cX10_init 59 = .ok (.putfield 32, 3) := by decide +kernel
theorem dX10_init_62 : decode cX10_init 62 = .ok (.aload_n 0, 1) := by decide +kernel
theorem dX10_init_63 : decode cX10_init 63 = .ok (.sipush 400, 3) := by decide +kernel
theorem dX10_init_66 : decode cX10_init 66 = .ok (.newarray .boolean, 2) := by decide +kernel
theorem dX10_init_68 : decode cX10_init 68 = .ok (.putfield 35, 3) := by decide +kernel
theorem dX10_init_71 : decode cX10_init 71 = .ok (.aload_n 0, 1) := by decide +kernel
theorem dX10_init_72 : decode cX10_init 72 = .ok (.sipush 800, 3) := by decide +kernel
theorem dX10_init_75 : decode cX10_init 75 = .ok (.newarray .int, 2) := by decide +kernel
theorem dX10_init_77 : decode cX10_init 77 = .ok (.putfield 39, 3) := by decide +kernel
theorem dX10_init_80 : decode cX10_init 80 = .ok (.aload_n 0, 1) := by decide +kernel
theorem dX10_init_81 : decode cX10_init 81 = .ok (.bipush 100, 2) := by decide +kernel
theorem dX10_init_83 : decode cX10_init 83 = .ok (.newarray .int, 2) := by decide +kernel
theorem dX10_init_85 : decode cX10_init 85 = .ok (.putfield 42, 3) := by decide +kernel
theorem dX10_init_88 : decode cX10_init 88 = .ok (.aload_n 0, 1) := by decide +kernel
theorem dX10_init_89 : decode cX10_init 89 = .ok (.sipush 200, 3) := by decide +kernel
theorem dX10_init_92 : decode cX10_init 92 = .ok (.newarray .int, 2) := by decide +kernel
theorem dX10_init_94 : decode cX10_init 94 = .ok (.putfield 45, 3) := by decide +kernel
theorem dX10_init_97 : decode cX10_init 97 = .ok (.aload_n 0, 1) := by decide +kernel
theorem dX10_init_98 : decode cX10_init 98 = .ok (.bipush 10, 2) := by decide +kernel
theorem dX10_init_100 : decode cX10_init 100 = .ok (.newarray .int, 2) := by decide +kernel
theorem dX10_init_102 : decode cX10_init 102 = .ok (.putfield 48, 3) := by decide +kernel
theorem dX10_init_105 : decode cX10_init 105 = .ok (.aload_n 0, 1) := by decide +kernel
theorem dX10_init_106 : decode cX10_init 106 = .ok (.bipush 10, 2) := by decide +kernel
theorem dX10_init_108 : decode cX10_init 108 = .ok (.newarray .int, 2) := by decide +kernel
theorem dX10_init_110 : decode cX10_init 110 = .ok (.putfield 51, 3) := by decide +kernel
theorem dX10_init_113 : decode cX10_init 113 = .ok (.aload_n 0, 1) := by decide +kernel
theorem dX10_init_114 : decode cX10_init 114 = .ok (.sipush 1024, 3) := by decide +kernel
theorem dX10_init_117 : decode cX10_init 117 = .ok (.newarray .int, 2) := by decide +kernel
theorem dX10_init_119 : decode cX10_init 119 = .ok (.putfield 54, 3) := by decide +kernel
theorem dX10_init_122 : decode cX10_init 122 = .ok (.aload_n 0, 1) := by decide +kernel
theorem dX10_init_123 : decode cX10_init 123 = .ok (.bipush 10, 2) := by decide +kernel
theorem dX10_init_125 : decode cX10_init 125 = .ok (.newarray .int, 2) := by decide +kernel
theorem dX10_init_127 : decode cX10_init 127 = .ok (.putfield 57, 3) := by decide +kernel
theorem dX10_init_130 : decode cX10_init 130 = .ok (.aload_n 0, 1) := by decide +kernel
theorem dX10_init_131 : decode cX10_init 131 = .ok (.sipush 1024, 3) := by decide +kernel
theorem dX10_init_134 : decode cX10_init 134 = .ok (.newarray .boolean, 2) := by decide +kernel
theorem dX10_init_136 : decode cX10_init 136 = .ok (.putfield 60, 3) := by decide +kernel
theorem dX10_init_139 : decode cX10_init 139 = .ok (.aload_n 0, 1) := by decide +kernel
theorem dX10_init_140 : decode cX10_init 140 = .ok (.iconst 0, 1) := by decide +kernel
theorem dX10_init_141 : decode cX10_init 141 = .ok (.putfield 63, 3) := by decide +kernel
theorem dX10_init_144 : decode cX10_init 144 = .ok (.aload_n 0, 1) := by decide +kernel
theorem dX10_init_145 : decode cX10_init 145 = .ok (.bipush 30, 2) := by decide +kernel
theorem dX10_init_147 : decode cX10_init 147 = .ok (.newarray .int, 2) := by decide +kernel
theorem dX10_init_149 : decode cX10_init 149 = .ok (.putfield 66, 3) := by decide +kernel
theorem dX10_init_152 : decode cX10_init 152 = .ok (.aload_n 0, 1) := by decide +kernel
theorem dX10_init_153 : decode cX10_init 153 = .ok (.iconst 0, 1) := by decide +kernel
theorem dX10_init_154 : decode cX10_init 154 = .ok (.putfield 69, 3) := by decide +kernel
theorem dX10_init_157 : decode cX10_init 157 = .ok (.aload_n 0, 1) := by decide +kernel
theorem dX10_init_158 : decode cX10_init 158 = .ok (.iconst 3, 1) := by decide +kernel
theorem dX10_init_159 : decode cX10_init 159 = .ok (.newarray .int, 2) := by decide +kernel
theorem dX10_init_161 : decode cX10_init 161 = .ok (.putfield 72, 3) := by decide +kernel
theorem dX10_init_164 : decode cX10_init 164 = .ok (.aload_n 0, 1) := by decide +kernel
theorem dX10_init_165 : decode cX10_init 165 = .ok (.iconst 3, 1) := by decide +kernel
theorem dX10_init_166 : decode cX10_init 166 = .ok (.newarray .int, 2) := by decide +kernel
theorem dX10_init_168 : decode cX10_init 168 = .ok (.putfield 75, 3) := by decide +kernel
theorem dX10_init_171 : decode cX10_init 171 = .ok (.aload_n 0, 1) := by decide +kernel
theorem dX10_init_172 : decode cX10_init 172 = .ok (.iconst 0, 1) := by decide +kernel
theorem dX10_init_173 : decode cX10_init 173 = .ok (.putfield 78, 3) := by decide +kernel
theorem dX10_init_176 : decode cX10_init 176 = .ok (.aload_n 0, 1) := by decide +kernel
theorem dX10_init_177 : decode cX10_init 177 = .ok (.bipush 14, 2) := by decide +kernel
theorem dX10_init_179 : decode cX10_init 179 = .ok (.newarray .int, 2) := by decide +kernel
theorem dX10_init_181 : decode cX10_init 181 = .ok (.putfield 81, 3) := by decide +kernel
theorem dX10_init_184 : decode cX10_init 184 = .ok (.aload_n 0, 1) := by decide +kernel
theorem dX10_init_185 : decode cX10_init 185 = .ok (.bipush 14, 2) := by decide +kernel
theorem dX10_init_187 : decode cX10_init 187 = .ok (.newarray .int, 2) := by decide +kernel
theorem dX10_init_189 : decode cX10_init 189 = .ok (.putfield 84, 3) := by decide +kernel
theorem dX10_init_192 : decode cX10_init 192 = .ok (.aload_n 0, 1) := by decide +kernel
theorem dX10_init_193 : decode cX10_init 193 = .ok (.bipush 14, 2) := by decide +kernel
theorem dX10_init_195 : decode cX10_init 195 = .ok (.newarray .int, 2) := by decide +kernel
theorem dX10_init_197 : decode cX10_init 197 = .ok (.putfield 87, 3) := by decide +kernel
theorem dX10_init_200 : decode cX10_init 200 = .ok (.aload_n 0, 1) := by decide +kernel
theorem dX10_init_201 : decode cX10_init 201 = .ok (.bipush 10, 2) := by decide +kernel
theorem dX10_init_203 : decode cX10_init 203 = .ok (.newarray .int, 2) := by decide +kernel
theorem dX10_init_205 : decode cX10_init 205 = .ok (.putfield 90, 3) := by decide +kernel
theorem dX10_init_208 : decode cX10_init 208 = .ok (.aload_n 0, 1) := by decide +kernel
theorem dX10_init_209 : decode cX10_init 209 = .ok (.bipush 10, 2) := by decide +kernel
theorem dX10_init_211 : decode cX10_init 211 = .ok (.newarray .long, 2) := by decide +kernel
theorem dX10_init_213 : decode cX10_init 213 = .ok (.putfield 93, 3) := by decide +kernel
theorem dX10_init_216 : decode cX10_init 216 = .ok (.aload_n 0, 1) := by decide +kernel
theorem dX10_init_217 : decode cX10_init 217 = .ok (.bipush 8, 2) := by decide +kernel
theorem dX10_init_219 : decode cX10_init 219 = .ok (.newarray .int, 2) := by decide +kernel
theorem dX10_init_221 : decode cX10_init 221 = .ok (.putfield 97, 3) := by decide +kernel
theorem dX10_init_224 : decode cX10_init 224 = .ok (.aload_n 0, 1) := by decide +kernel
theorem dX10_init_225 : decode cX10_init 225 = .ok (.bipush 8, 2) := by decide +kernel
theorem dX10_init_227 : decode cX10_init 227 = .ok (.newarray .int, 2) := by decide +kernel
theorem dX10_init_229 : decode cX10_init 229 = .ok (.putfield 100, 3) := by decide +kernel
theorem dX10_init_232 : decode cX10_init 232 = .ok (.aload_n 0, 1) := by decide +kernel
theorem dX10_init_233 : decode cX10_init 233 = .ok (.bipush 8, 2) := by decide +kernel
theorem dX10_init_235 : decode cX10_init 235 = .ok (.newarray .int, 2) := by decide +kernel
theorem dX10_init_237 : decode cX10_init 237 = .ok (.putfield 103, 3) := by decide +kernel
theorem dX10_init_240 : decode cX10_init 240 = .ok (.aload_n 0, 1) := by decide +kernel
theorem dX10_init_241 : decode cX10_init 241 = .ok (.sipush 480, 3) := by decide +kernel
theorem dX10_init_244 : decode cX10_init 244 = .ok (.newarray .long, 2) := by decide +kernel
theorem dX10_init_246 : decode cX10_init 246 = .ok (.putfield 106, 3) := by decide +kernel
theorem dX10_init_249 : decode cX10_init 249 = .ok (.aload_n 0, 1) := by decide +kernel
theorem dX10_init_250 : decode cX10_init 250 = .ok (.bipush 60, 2) := by decide +kernel
theorem dX10_init_252 : decode cX10_init 252 = .ok (.newarray .long, 2) := by decide +kernel
theorem dX10_init_254 : decode cX10_init 254 = .ok (.putfield 109, 3) := by decide +kernel
theorem dX10_init_257 : decode cX10_init 257 = .ok (.return_, 1) := by decide +kernel
theorem dX10_thrown_0 : decode cX10_thrown 0 = .ok (.aload_n 0, 1) := by decide +kernel
theorem dX10_thrown_1 : decode cX10_thrown 1 = .ok (.getfield 7, 3) := by decide +kernel
theorem dX10_thrown_4 : decode cX10_thrown 4 = .ok (.ireturn, 1) := by decide +kernel
theorem dX10_in_0 : decode cX10_in 0 = .ok (.iload_n 1, 1) := by decide +kernel
theorem dX10_in_1 : decode cX10_in 1 = .ok (.iload_n 2, 1) := by decide +kernel
theorem dX10_in_2 : decode cX10_in 2 = .ok (.if_icmp .lt 12, 3) := by decide +kernel
theorem dX10_in_5 : decode cX10_in 5 = .ok (.iload_n 1, 1) := by decide +kernel
theorem dX10_in_6 : decode cX10_in 6 = .ok (.iload_n 3, 1) := by decide +kernel
theorem dX10_in_7 : decode cX10_in 7 = .ok (.if_icmp .gt 7, 3) := by decide +kernel
theorem dX10_in_10 : decode cX10_in 10 = .ok (.iconst 1, 1) := by decide +kernel
theorem dX10_in_11 : decode cX10_in 11 = .ok (.goto 4, 3) := by decide +kernel
theorem dX10_in_14 : decode cX10_in 14 = .ok (.iconst 0, 1) := by decide +kernel
theorem dX10_in_15 : decode cX10_in 15 = .ok (.ireturn, 1) := by decide +kernel
set_option maxRecDepth 20000 in
theorem ggX10_isMark_X10_in : GoodIn wsX10_isMark wsX10_in := goodIn_r _ [6] (by decide +kernel) (by decide +kernel)
set_option maxRecDepth 20000 in
theorem gX10_isMark_X10_in : GoodIn wsX10_isMark (wsV RX10 112 RX10 yX10_in wsX10_in) := goodIn_app (goodIn_of _ (by decide +kernel)) ggX10_isMark_X10_in
theorem dX10_isMark_0 : decode cX10_isMark 0 = .ok (.aload_n 0, 1) := by decide +kernel
theorem dX10_isMark_1 : decode cX10_isMark 1 = .ok (.iload_n 1, 1) := by decide +kernel
theorem dX10_isMark_2 : decode cX10_isMark 2 = .ok (.iconst 0, 1) := by decide +kernel
theorem dX10_isMark_3 : decode cX10_isMark 3 = .ok (.aload_n 0, 1) := by decide +kernel
theorem dX10_isMark_4 : decode cX10_isMark 4 = .ok (.getfield 13, 3) := by decide +kernel
theorem dX10_isMark_7 : decode cX10_isMark 7 = .ok (.iconst 1, 1) := by decide +kernel
theorem dX10_isMark_8 : decode cX10_isMark 8 = .ok (.isub, 1) := by decide +kernel
theorem dX10_isMark_9 : decode cX10_isMark 9 = .ok (.invokevirtual 112, 3) := by decide +kernel
theorem dX10_isMark_12 : decode cX10_isMark 12 = .ok (.ireturn, 1) := by decide +kernel
set_option maxRecDepth 20000 in
theorem ggX10_isEpoch_X10_in : GoodIn wsX10_isEpoch wsX10_in := goodIn_r _ [5] (by decide +kernel) (by decide +kernel)
set_option maxRecDepth 20000 in
theorem gX10_isEpoch_X10_in : GoodIn wsX10_isEpoch (wsV RX10 112 RX10 yX10_in wsX10_in) := goodIn_app (goodIn_of _ (by decide +kernel)) ggX10_isEpoch_X10_in
theorem dX10_isEpoch_0 : decode cX10_isEpoch 0 = .ok (.aload_n 0, 1) := by decide +kernel
theorem dX10_isEpoch_1 : decode cX10_isEpoch 1 = .ok (.iload_n 1, 1) := by decide +kernel
theorem dX10_isEpoch_2 : decode cX10_isEpoch 2 = .ok (.iconst 0, 1) := by decide +kernel
theorem dX10_isEpoch_3 : decode cX10_isEpoch 3 = .ok (.bipush 39, 2) := by decide +kernel
theorem dX10_isEpoch_5 : decode cX10_isEpoch 5 = .ok (.invokevirtual 112, 3) := by decide +kernel
theorem dX10_isEpoch_8 : decode cX10_isEpoch 8 = .ok (.ireturn, 1) := by decide +kernel
theorem dX10_isSide_0 : decode cX10_isSide 0 = .ok (.iload_n 1, 1) := by decide +kernel
theorem dX10_isSide_1 : decode cX10_isSide 1 = .ok (.ifCond .eq 8, 3) := by decide +kernel
theorem dX10_isSide_4 : decode cX10_isSide 4 = .ok (.iload_n 1, 1) := by decide +kernel
theorem dX10_isSide_5 : decode cX10_isSide 5 = .ok (.iconst 1, 1) := by decide +kernel
theorem dX10_isSide_6 : decode cX10_isSide 6 = .ok (.if_icmp .ne 7, 3) := by decide +kernel
theorem dX10_isSide_9 : decode cX10_isSide 9 = .ok (.iconst 1, 1) := by decide +kernel
theorem dX10_isSide_10 : decode cX10_isSide 10 = .ok (.goto 4, 3) := by decide +kernel
theorem dX10_isSide_13 : decode cX10_isSide 13 = .ok (.iconst 0, 1) := by decide +kernel
theorem dX10_isSide_14 : decode cX10_isSide 14 = .ok (.ireturn, 1) := by decide +kernel
theorem dX10_hasAntenna_0 : decode cX10_hasAntenna 0 = .ok (.aload_n 0, 1) := by decide +kernel
theorem dX10_hasAntenna_1 : decode cX10_hasAntenna 1 = .ok (.getfield 16, 3) := by decide +kernel
theorem dX10_hasAntenna_4 : decode cX10_hasAntenna 4 = .ok (.iload_n 1, 1) := by decide +kernel
theorem dX10_hasAntenna_5 : decode cX10_hasAntenna 5 = .ok (.iaload, 1) := by decide +kernel
theorem dX10_hasAntenna_6 : decode cX10_hasAntenna 6 = .ok (.iconst 1, 1) := by decide +kernel
theorem dX10_hasAntenna_7 : decode cX10_hasAntenna 7 = .ok (.if_icmp .eq 13, 3) := by decide +kernel
theorem dX10_hasAntenna_10 : decode cX10_hasAntenna 10 = .ok (.aload_n 0, 1) := by decide +kernel
theorem dX10_hasAntenna_11 : decode cX10_hasAntenna 11 = .ok (.getfield 16, 3) := by decide +kernel
theorem dX10_hasAntenna_14 : decode cX10_hasAntenna 14 = .ok (.iload_n 1, 1) := by decide +kernel
theorem dX10_hasAntenna_15 : decode cX10_hasAntenna 15 = .ok (.iaload, 1) := by decide +kernel
theorem dX10_hasAntenna_16 : decode cX10_hasAntenna 16 = .ok (.iconst 2, 1) := by decide +kernel
theorem dX10_hasAntenna_17 : decode cX10_hasAntenna 17 = .ok (.if_icmp .ne 7, 3) := by decide +kernel
theorem dX10_hasAntenna_20 : decode cX10_hasAntenna 20 = .ok (.iconst 1, 1) := by decide +kernel
theorem dX10_hasAntenna_21 : decode cX10_hasAntenna 21 = .ok (.goto 4, 3) := by decide +kernel
theorem dX10_hasAntenna_24 : decode cX10_hasAntenna 24 = .ok (.iconst 0, 1) := by decide +kernel
theorem dX10_hasAntenna_25 : decode cX10_hasAntenna 25 = .ok (.ireturn, 1) := by decide +kernel
set_option maxRecDepth 20000 in
theorem ggX10_mark_X10_in : GoodIn wsX10_mark wsX10_in := goodIn_r _ [9] (by decide +kernel) (by decide +kernel)
set_option maxRecDepth 20000 in
theorem gX10_mark_X10_in : GoodIn wsX10_mark (wsV RX10 112 RX10 yX10_in wsX10_in) := goodIn_app (goodIn_of _ (by decide +kernel)) ggX10_mark_X10_in
theorem dX10_mark_0 : decode cX10_mark 0 = .ok (.aload_n 0, 1) := by decide +kernel
theorem dX10_mark_1 : decode cX10_mark 1 = .ok (.iload_n 1, 1) := by decide +kernel
theorem dX10_mark_2 : decode cX10_mark 2 = .ok (.iconst 0, 1) := by decide +kernel
theorem dX10_mark_3 : decode cX10_mark 3 = .ok (.iconst 3, 1) := by decide +kernel
theorem dX10_mark_4 : decode cX10_mark 4 = .ok (.invokevirtual 112, 3) := by decide +kernel
theorem dX10_mark_7 : decode cX10_mark 7 = .ok (.ifCond .eq 31, 3) := by decide +kernel
theorem dX10_mark_10 : decode cX10_mark 10 = .ok (.aload_n 0, 1) := by decide +kernel
theorem dX10_mark_11 : decode cX10_mark 11 = .ok (.iload_n 2, 1) := by decide +kernel
theorem dX10_mark_12 : decode cX10_mark 12 = .ok (.sipush (-1000), 3) := by decide +kernel
theorem dX10_mark_15 : decode cX10_mark 15 = .ok (.sipush 1000, 3) := by decide +kernel
theorem dX10_mark_18 : decode cX10_mark 18 = .ok (.invokevirtual 112, 3) := by decide +kernel
theorem dX10_mark_21 : decode cX10_mark 21 = .ok (.ifCond .eq 17, 3) := by decide +kernel
theorem dX10_mark_24 : decode cX10_mark 24 = .ok (.aload_n 0, 1) := by decide +kernel
theorem dX10_mark_25 : decode cX10_mark 25 = .ok (.iload_n 3, 1) := by decide +kernel
theorem dX10_mark_26 : decode cX10_mark 26 = .ok (.sipush (-1000), 3) := by decide +kernel
theorem dX10_mark_29 : decode cX10_mark 29 = .ok (.sipush 1000, 3) := by decide +kernel
theorem dX10_mark_32 : decode cX10_mark 32 = .ok (.invokevirtual 112, 3) := by decide +kernel
theorem dX10_mark_35 : decode cX10_mark 35 = .ok (.ifCond .ne 5, 3) := by decide +kernel
theorem dX10_mark_38 : decode cX10_mark 38 = .ok (.iconst (-1), 1) := by decide +kernel
theorem dX10_mark_39 : decode cX10_mark 39 = .ok (.ireturn, 1) := by decide +kernel
theorem dX10_mark_40 : decode cX10_mark 40 = .ok (.aload_n 0, 1) := by decide +kernel
theorem dX10_mark_41 : decode cX10_mark 41 = .ok (.getfield 13, 3) := by decide +kernel
theorem dX10_mark_44 : decode cX10_mark 44 = .ok (.bipush 10, 2) := by decide +kernel
theorem dX10_mark_46 : decode cX10_mark 46 = .ok (.if_icmp .ne 6, 3) := by decide +kernel
theorem dX10_mark_49 : decode cX10_mark 49 = .ok (.bipush (-2), 2) := by decide +kernel
theorem dX10_mark_51 : decode cX10_mark 51 = .ok (.ireturn, 1) := by decide +kernel
theorem dX10_mark_52 : decode cX10_mark 52 = .ok (.aload_n 0, 1) := by decide +kernel
theorem dX10_mark_53 : decode cX10_mark 53 = .ok (.getfield 16, 3) := by decide +kernel
theorem dX10_mark_56 : decode cX10_mark 56 = .ok (.aload_n 0, 1) := by decide +kernel
theorem dX10_mark_57 : decode cX10_mark 57 = .ok (.getfield 13, 3) := by decide +kernel
theorem dX10_mark_60 : decode cX10_mark 60 = .ok (.iload_n 1, 1) := by decide +kernel
theorem dX10_mark_61 : decode cX10_mark 61 = .ok (.iastore, 1) := by decide +kernel
theorem dX10_mark_62 : decode cX10_mark 62 = .ok (.aload_n 0, 1) := by decide +kernel
theorem dX10_mark_63 : decode cX10_mark 63 = .ok (.getfield 20, 3) := by decide +kernel
theorem dX10_mark_66 : decode cX10_mark 66 = .ok (.aload_n 0, 1) := by decide +kernel
theorem dX10_mark_67 : decode cX10_mark 67 = .ok (.getfield 13, 3) := by decide +kernel
theorem dX10_mark_70 : decode cX10_mark 70 = .ok (.iload_n 2, 1) := by decide +kernel
theorem dX10_mark_71 : decode cX10_mark 71 = .ok (.iastore, 1) := by decide +kernel
theorem dX10_mark_72 : decode cX10_mark 72 = .ok (.aload_n 0, 1) := by decide +kernel
theorem dX10_mark_73 : decode cX10_mark 73 = .ok (.getfield 23, 3) := by decide +kernel
theorem dX10_mark_76 : decode cX10_mark 76 = .ok (.aload_n 0, 1) := by decide +kernel
theorem dX10_mark_77 : decode cX10_mark 77 = .ok (.getfield 13, 3) := by decide +kernel
theorem dX10_mark_80 : decode cX10_mark 80 = .ok (.iload_n 3, 1) := by decide +kernel
theorem dX10_mark_81 : decode cX10_mark 81 = .ok (.iastore, 1) := by decide +kernel
theorem dX10_mark_82 : decode cX10_mark 82 = .ok (.aload_n 0, 1) := by decide +kernel
theorem dX10_mark_83 : decode cX10_mark 83 = .ok (.dup, 1) := by decide +kernel
theorem dX10_mark_84 : decode cX10_mark 84 = .ok (.getfield 13, 3) := by decide +kernel
theorem dX10_mark_87 : decode cX10_mark 87 = .ok (.iconst 1, 1) := by decide +kernel
theorem dX10_mark_88 : decode cX10_mark 88 = .ok (.iadd, 1) := by decide +kernel
theorem dX10_mark_89 : decode cX10_mark 89 = .ok (.putfield 13, 3) := by decide +kernel
theorem dX10_mark_92 : decode cX10_mark 92 = .ok (.aload_n 0, 1) := by decide +kernel
theorem dX10_mark_93 : decode cX10_mark 93 = .ok (.getfield 13, 3) := by decide +kernel
theorem dX10_mark_96 : decode cX10_mark 96 = .ok (.iconst 1, 1) := by decide +kernel
theorem dX10_mark_97 : decode cX10_mark 97 = .ok (.isub, 1) := by decide +kernel
theorem dX10_mark_98 : decode cX10_mark 98 = .ok (.ireturn, 1) := by decide +kernel
set_option maxRecDepth 20000 in
theorem ggX10_antenna_X10_isMark : GoodIn wsX10_antenna wsX10_isMark := goodIn_r _ [7, 8, 9, 10, 11, 6, 12, 22, 23, 24, 25, 26, 27, 28, 29, 30, 31, 32, 33, 34, 35, 36, 37, 38, 39, 40, 41, 42, 43, 44, 45, 46, 47, 48, 49, 50, 51, 52, 53, 54] (by decide +kernel) (by decide +kernel)
set_option maxRecDepth 20000 in
theorem gX10_antenna_X10_isMark : GoodIn wsX10_antenna (wsV RX10 116 RX10 yX10_isMark wsX10_isMark) := goodIn_app (goodIn_of _ (by decide +kernel)) ggX10_antenna_X10_isMark
set_option maxRecDepth 20000 in
theorem ggX10_antenna_X10_isEpoch : GoodIn wsX10_antenna wsX10_isEpoch := goodIn_r _ [16, 9, 10, 11, 6, 12] (by decide +kernel) (by decide +kernel)
set_option maxRecDepth 20000 in
theorem gX10_antenna_X10_isEpoch : GoodIn wsX10_antenna (wsV RX10 120 RX10 yX10_isEpoch wsX10_isEpoch) := goodIn_app (goodIn_of _ (by decide +kernel)) ggX10_antenna_X10_isEpoch
set_option maxRecDepth 20000 in
theorem ggX10_antenna_X10_in : GoodIn wsX10_antenna wsX10_in := goodIn_r _ [12] (by decide +kernel) (by decide +kernel)
set_option maxRecDepth 20000 in
theorem gX10_antenna_X10_in : GoodIn wsX10_antenna (wsV RX10 112 RX10 yX10_in wsX10_in) := goodIn_app (goodIn_of _ (by decide +kernel)) ggX10_antenna_X10_in
set_option maxRecDepth 20000 in
theorem ggX10_antenna_X10_hasAntenna : GoodIn wsX10_antenna wsX10_hasAntenna := goodIn_r _ [20, 21, 22, 23, 24, 25, 26, 27, 28, 29, 30, 31, 32, 33, 34, 35, 36, 37, 38, 39, 40, 41, 42, 43, 44, 45, 46, 47, 48, 49, 50, 51, 52, 53, 54] (by decide +kernel) (by decide +kernel)
set_option maxRecDepth 20000 in
theorem gX10_antenna_X10_hasAntenna : GoodIn wsX10_antenna (wsV RX10 123 RX10 yX10_hasAntenna wsX10_hasAntenna) := goodIn_app (goodIn_of _ (by decide +kernel)) ggX10_antenna_X10_hasAntenna
theorem dX10_antenna_0 : decode cX10_antenna 0 = .ok (.aload_n 0, 1) := by decide +kernel
theorem dX10_antenna_1 : decode cX10_antenna 1 = .ok (.iload_n 1, 1) := by decide +kernel
theorem dX10_antenna_2 : decode cX10_antenna 2 = .ok (.invokevirtual 116, 3) := by decide +kernel
theorem dX10_antenna_5 : decode cX10_antenna 5 = .ok (.ifCond .eq 23, 3) := by decide +kernel
theorem dX10_antenna_8 : decode cX10_antenna 8 = .ok (.aload_n 0, 1) := by decide +kernel
theorem dX10_antenna_9 : decode cX10_antenna 9 = .ok (.iload_n 2, 1) := by decide +kernel
theorem dX10_antenna_10 : decode cX10_antenna 10 = .ok (.invokevirtual 120, 3) := by decide +kernel
theorem dX10_antenna_13 : decode cX10_antenna 13 = .ok (.ifCond .eq 15, 3) := by decide +kernel
theorem dX10_antenna_16 : decode cX10_antenna 16 = .ok (.aload_n 0, 1) := by decide +kernel
theorem dX10_antenna_17 : decode cX10_antenna 17 = .ok (.iload_n 3, 1) := by decide +kernel
theorem dX10_antenna_18 : decode cX10_antenna 18 = .ok (.bipush (-99), 2) := by decide +kernel
theorem dX10_antenna_20 : decode cX10_antenna 20 = .ok (.bipush 99, 2) := by decide +kernel
theorem dX10_antenna_22 : decode cX10_antenna 22 = .ok (.invokevirtual 112, 3) := by decide +kernel
theorem dX10_antenna_25 : decode cX10_antenna 25 = .ok (.ifCond .ne 7, 3) := by decide +kernel
theorem dX10_antenna_28 : decode cX10_antenna 28 = .ok (.sipush (-1001), 3) := by decide +kernel
theorem dX10_antenna_31 : decode cX10_antenna 31 = .ok (.ireturn, 1) := by decide +kernel
theorem dX10_antenna_32 : decode cX10_antenna 32 = .ok (.aload_n 0, 1) := by decide +kernel
theorem dX10_antenna_33 : decode cX10_antenna 33 = .ok (.iload_n 1, 1) := by decide +kernel
theorem dX10_antenna_34 : decode cX10_antenna 34 = .ok (.invokevirtual 123, 3) := by decide +kernel
theorem dX10_antenna_37 : decode cX10_antenna 37 = .ok (.ifCond .ne 7, 3) := by decide +kernel
theorem dX10_antenna_40 : decode cX10_antenna 40 = .ok (.sipush (-1003), 3) := by decide +kernel
theorem dX10_antenna_43 : decode cX10_antenna 43 = .ok (.ireturn, 1) := by decide +kernel
theorem dX10_antenna_44 : decode cX10_antenna 44 = .ok (.aload_n 0, 1) := by decide +kernel
theorem dX10_antenna_45 : decode cX10_antenna 45 = .ok (.getfield 26, 3) := by decide +kernel
theorem dX10_antenna_48 : decode cX10_antenna 48 = .ok (.iload_n 1, 1) := by decide +kernel
theorem dX10_antenna_49 : decode cX10_antenna 49 = .ok (.iaload, 1) := by decide +kernel
theorem dX10_antenna_50 : decode cX10_antenna 50 = .ok (.istore 4, 2) := by decide +kernel
theorem dX10_antenna_52 : decode cX10_antenna 52 = .ok (.aload_n 0, 1) := by decide +kernel
theorem dX10_antenna_53 : decode cX10_antenna 53 = .ok (.getfield 26, 3) := by decide +kernel
theorem dX10_antenna_56 : decode cX10_antenna 56 = .ok (.iload_n 1, 1) := by decide +kernel
theorem dX10_antenna_57 : decode cX10_antenna 57 = .ok (.iload_n 3, 1) := by decide +kernel
theorem dX10_antenna_58 : decode cX10_antenna 58 = .ok (.iastore, 1) := by decide +kernel
theorem dX10_antenna_59 : decode cX10_antenna 59 = .ok (.aload_n 0, 1) := by decide +kernel
theorem dX10_antenna_60 : decode cX10_antenna 60 = .ok (.getfield 29, 3) := by decide +kernel
theorem dX10_antenna_63 : decode cX10_antenna 63 = .ok (.iload_n 1, 1) := by decide +kernel
theorem dX10_antenna_64 : decode cX10_antenna 64 = .ok (.iload_n 2, 1) := by decide +kernel
theorem dX10_antenna_65 : decode cX10_antenna 65 = .ok (.iastore, 1) := by decide +kernel
theorem dX10_antenna_66 : decode cX10_antenna 66 = .ok (.iload 4, 2) := by decide +kernel
theorem dX10_antenna_68 : decode cX10_antenna 68 = .ok (.ireturn, 1) := by decide +kernel
theorem dX10_spot_0 : decode cX10_spot 0 = .ok (.bipush 40, 2) := by decide +kernel
theorem dX10_spot_2 : decode cX10_spot 2 = .ok (.iload_n 1, 1) := by decide +kernel
theorem dX10_spot_3 : decode cX10_spot 3 = .ok (.imul, 1) := by decide +kernel
theorem dX10_spot_4 : decode cX10_spot 4 = .ok (.iload_n 2, 1) := by decide +kernel
theorem dX10_spot_5 : decode cX10_spot 5 = .ok (.iadd, 1) := by decide +kernel
theorem dX10_spot_6 : decode cX10_spot 6 = .ok (.ireturn, 1) := by decide +kernel
set_option maxRecDepth 20000 in
theorem ggX10_read_X10_isMark : GoodIn wsX10_read wsX10_isMark := goodIn_r _ [9, 10, 11, 12, 13, 8, 14, 23, 24, 25, 26, 27, 28, 29, 30, 31, 32, 33, 34, 35, 36, 37, 38, 39, 40, 41, 42, 43, 44, 45, 46, 47, 48, 49, 50, 51, 52, 53, 54, 55] (by decide +kernel) (by decide +kernel)
set_option maxRecDepth 20000 in
theorem gX10_read_X10_isMark : GoodIn wsX10_read (wsV RX10 116 RX10 yX10_isMark wsX10_isMark) := goodIn_app (goodIn_of _ (by decide +kernel)) ggX10_read_X10_isMark
set_option maxRecDepth 20000 in
theorem ggX10_read_X10_isEpoch : GoodIn wsX10_read wsX10_isEpoch := goodIn_r _ [18, 11, 12, 13, 8, 14] (by decide +kernel) (by decide +kernel)
set_option maxRecDepth 20000 in
theorem gX10_read_X10_isEpoch : GoodIn wsX10_read (wsV RX10 120 RX10 yX10_isEpoch wsX10_isEpoch) := goodIn_app (goodIn_of _ (by decide +kernel)) ggX10_read_X10_isEpoch
set_option maxRecDepth 20000 in
theorem ggX10_read_X10_in : GoodIn wsX10_read wsX10_in := goodIn_r _ [14] (by decide +kernel) (by decide +kernel)
set_option maxRecDepth 20000 in
theorem gX10_read_X10_in : GoodIn wsX10_read (wsV RX10 112 RX10 yX10_in wsX10_in) := goodIn_app (goodIn_of _ (by decide +kernel)) ggX10_read_X10_in
set_option maxRecDepth 20000 in
theorem ggX10_read_X10_spot : GoodIn wsX10_read wsX10_spot := goodIn_r _ [22] (by decide +kernel) (by decide +kernel)
set_option maxRecDepth 20000 in
theorem gX10_read_X10_spot : GoodIn wsX10_read (wsV RX10 128 RX10 yX10_spot wsX10_spot) := goodIn_app (goodIn_of _ (by decide +kernel)) ggX10_read_X10_spot
theorem dX10_read_0 : decode cX10_read 0 = .ok (.aload_n 0, 1) := by decide +kernel
theorem dX10_read_1 : decode cX10_read 1 = .ok (.iload_n 1, 1) := by decide +kernel
theorem dX10_read_2 : decode cX10_read 2 = .ok (.invokevirtual 116, 3) := by decide +kernel
theorem dX10_read_5 : decode cX10_read 5 = .ok (.ifCond .eq 36, 3) := by decide +kernel
theorem dX10_read_8 : decode cX10_read 8 = .ok (.aload_n 0, 1) := by decide +kernel
theorem dX10_read_9 : decode cX10_read 9 = .ok (.iload_n 2, 1) := by decide +kernel
theorem dX10_read_10 : decode cX10_read 10 = .ok (.invokevirtual 120, 3) := by decide +kernel
theorem dX10_read_13 : decode cX10_read 13 = .ok (.ifCond .eq 28, 3) := by decide +kernel
theorem dX10_read_16 : decode cX10_read 16 = .ok (.aload_n 0, 1) := by decide +kernel
theorem dX10_read_17 : decode cX10_read 17 = .ok (.iload_n 3, 1) := by decide +kernel
theorem dX10_read_18 : decode cX10_read 18 = .ok (.ldc 126, 2) := by decide +kernel
theorem dX10_read_20 : decode cX10_read 20 = .ok (.ldc 127, 2) := by decide +kernel
theorem dX10_read_22 : decode cX10_read 22 = .ok (.invokevirtual 112, 3) := by decide +kernel
theorem dX10_read_25 : decode cX10_read 25 = .ok (.ifCond .eq 16, 3) := by decide +kernel
theorem dX10_read_28 : decode cX10_read 28 = .ok (.aload_n 0, 1) := by decide +kernel
theorem dX10_read_29 : decode cX10_read 29 = .ok (.iload 4, 2) := by decide +kernel
theorem dX10_read_31 : decode cX10_read 31 = .ok (.ldc 126, 2) := by decide +kernel
theorem dX10_read_33 : decode cX10_read 33 = .ok (.ldc 127, 2) := by decide +kernel
theorem dX10_read_35 : decode cX10_read 35 = .ok (.invokevirtual 112, 3) := by decide +kernel
theorem dX10_read_38 : decode cX10_read 38 = .ok (.ifCond .ne 5, 3) := by decide +kernel
theorem dX10_read_41 : decode cX10_read 41 = .ok (.iconst (-1), 1) := by decide +kernel
theorem dX10_read_42 : decode cX10_read 42 = .ok (.ireturn, 1) := by decide +kernel
theorem dX10_read_43 : decode cX10_read 43 = .ok (.aload_n 0, 1) := by decide +kernel
theorem dX10_read_44 : decode cX10_read 44 = .ok (.getfield 35, 3) := by decide +kernel
theorem dX10_read_47 : decode cX10_read 47 = .ok (.aload_n 0, 1) := by decide +kernel
theorem dX10_read_48 : decode cX10_read 48 = .ok (.iload_n 1, 1) := by decide +kernel
theorem dX10_read_49 : decode cX10_read 49 = .ok (.iload_n 2, 1) := by decide +kernel
theorem dX10_read_50 : decode cX10_read 50 = .ok (.invokevirtual 128, 3) := by decide +kernel
theorem dX10_read_53 : decode cX10_read 53 = .ok (.baload, 1) := by decide +kernel
theorem dX10_read_54 : decode cX10_read 54 = .ok (.ifCond .eq 7, 3) := by decide +kernel
theorem dX10_read_57 : decode cX10_read 57 = .ok (.iconst 0, 1) := by decide +kernel
theorem dX10_read_58 : decode cX10_read 58 = .ok (.goto 4, 3) := by decide +kernel
theorem dX10_read_61 : decode cX10_read 61 = .ok (.iconst 1, 1) := by decide +kernel
theorem dX10_read_62 : decode cX10_read 62 = .ok (.istore 5, 2) := by decide +kernel
theorem dX10_read_64 : decode cX10_read 64 = .ok (.aload_n 0, 1) := by decide +kernel
theorem dX10_read_65 : decode cX10_read 65 = .ok (.getfield 35, 3) := by decide +kernel
theorem dX10_read_68 : decode cX10_read 68 = .ok (.aload_n 0, 1) := by decide +kernel
theorem dX10_read_69 : decode cX10_read 69 = .ok (.iload_n 1, 1) := by decide +kernel
theorem dX10_read_70 : decode cX10_read 70 = .ok (.iload_n 2, 1) := by decide +kernel
theorem dX10_read_71 : decode cX10_read 71 = .ok (.invokevirtual 128, 3) := by decide +kernel
theorem dX10_read_74 : decode cX10_read 74 = .ok (.iconst 1, 1) := by decide +kernel
theorem dX10_read_75 : decode cX10_read 75 = .ok (.bastore, 1) := by decide +kernel
theorem dX10_read_76 : decode cX10_read 76 = .ok (.aload_n 0, 1) := by decide +kernel
theorem dX10_read_77 : decode cX10_read 77 = .ok (.getfield 39, 3) := by decide +kernel
theorem dX10_read_80 : decode cX10_read 80 = .ok (.iconst 2, 1) := by decide +kernel
theorem dX10_read_81 : decode cX10_read 81 = .ok (.aload_n 0, 1) := by decide +kernel
theorem dX10_read_82 : decode cX10_read 82 = .ok (.iload_n 1, 1) := by decide +kernel
theorem dX10_read_83 : decode cX10_read 83 = .ok (.iload_n 2, 1) := by decide +kernel
theorem dX10_read_84 : decode cX10_read 84 = .ok (.invokevirtual 128, 3) := by decide +kernel
theorem dX10_read_87 : decode cX10_read 87 = .ok (.imul, 1) := by decide +kernel
theorem dX10_read_88 : decode cX10_read 88 = .ok (.iload_n 3, 1) := by decide +kernel
theorem dX10_read_89 : decode cX10_read 89 = .ok (.iastore, 1) := by decide +kernel
theorem dX10_read_90 : decode cX10_read 90 = .ok (.aload_n 0, 1) := by decide +kernel
theorem dX10_read_91 : decode cX10_read 91 = .ok (.getfield 39, 3) := by decide +kernel
theorem dX10_read_94 : decode cX10_read 94 = .ok (.iconst 2, 1) := by decide +kernel
theorem dX10_read_95 : decode cX10_read 95 = .ok (.aload_n 0, 1) := by decide +kernel
theorem dX10_read_96 : decode cX10_read 96 = .ok (.iload_n 1, 1) := by decide +kernel
theorem dX10_read_97 : decode cX10_read 97 = .ok (.iload_n 2, 1) := by decide +kernel
theorem dX10_read_98 : decode cX10_read 98 = .ok (.invokevirtual 128, 3) := by decide +kernel
theorem dX10_read_101 : decode cX10_read 101 = .ok (.imul, 1) := by decide +kernel
theorem dX10_read_102 : decode cX10_read 102 = .ok (.iconst 1, 1) := by decide +kernel
theorem dX10_read_103 : decode cX10_read 103 = .ok (.iadd, 1) := by decide +kernel
theorem dX10_read_104 : decode cX10_read 104 = .ok (.iload 4, 2) := by decide +kernel
theorem dX10_read_106 : decode cX10_read 106 = .ok (.iastore, 1) := by decide +kernel
theorem dX10_read_107 : decode cX10_read 107 = .ok (.iload 5, 2) := by decide +kernel
theorem dX10_read_109 : decode cX10_read 109 = .ok (.ireturn, 1) := by decide +kernel
set_option maxRecDepth 20000 in
theorem ggX10_gap_X10_isMark : GoodIn wsX10_gap wsX10_isMark := goodIn_r _ [6, 7, 8, 9, 10, 5, 11, 20, 21, 22, 23, 24, 25, 26, 27, 28, 29, 30, 31, 32, 33, 34, 35, 36, 37, 38, 39, 40, 41, 42, 43, 44, 45, 46, 47, 48, 49, 50, 51, 52] (by decide +kernel) (by decide +kernel)
set_option maxRecDepth 20000 in
theorem gX10_gap_X10_isMark : GoodIn wsX10_gap (wsV RX10 116 RX10 yX10_isMark wsX10_isMark) := goodIn_app (goodIn_of _ (by decide +kernel)) ggX10_gap_X10_isMark
set_option maxRecDepth 20000 in
theorem ggX10_gap_X10_isEpoch : GoodIn wsX10_gap wsX10_isEpoch := goodIn_r _ [15, 8, 9, 10, 5, 11] (by decide +kernel) (by decide +kernel)
set_option maxRecDepth 20000 in
theorem gX10_gap_X10_isEpoch : GoodIn wsX10_gap (wsV RX10 120 RX10 yX10_isEpoch wsX10_isEpoch) := goodIn_app (goodIn_of _ (by decide +kernel)) ggX10_gap_X10_isEpoch
set_option maxRecDepth 20000 in
theorem ggX10_gap_X10_spot : GoodIn wsX10_gap wsX10_spot := goodIn_r _ [19] (by decide +kernel) (by decide +kernel)
set_option maxRecDepth 20000 in
theorem gX10_gap_X10_spot : GoodIn wsX10_gap (wsV RX10 128 RX10 yX10_spot wsX10_spot) := goodIn_app (goodIn_of _ (by decide +kernel)) ggX10_gap_X10_spot
theorem dX10_gap_0 : decode cX10_gap 0 = .ok (.aload_n 0, 1) := by decide +kernel
theorem dX10_gap_1 : decode cX10_gap 1 = .ok (.iload_n 1, 1) := by decide +kernel
theorem dX10_gap_2 : decode cX10_gap 2 = .ok (.invokevirtual 116, 3) := by decide +kernel
theorem dX10_gap_5 : decode cX10_gap 5 = .ok (.ifCond .eq 11, 3) := by decide +kernel
theorem dX10_gap_8 : decode cX10_gap 8 = .ok (.aload_n 0, 1) := by decide +kernel
theorem dX10_gap_9 : decode cX10_gap 9 = .ok (.iload_n 2, 1) := by decide +kernel
theorem dX10_gap_10 : decode cX10_gap 10 = .ok (.invokevirtual 120, 3) := by decide +kernel
theorem dX10_gap_13 : decode cX10_gap 13 = .ok (.ifCond .ne 5, 3) := by decide +kernel
theorem dX10_gap_16 : decode cX10_gap 16 = .ok (.iconst (-1), 1) := by decide +kernel
theorem dX10_gap_17 : decode cX10_gap 17 = .ok (.ireturn, 1) := by decide +kernel
theorem dX10_gap_18 : decode cX10_gap 18 = .ok (.aload_n 0, 1) := by decide +kernel
theorem dX10_gap_19 : decode cX10_gap 19 = .ok (.getfield 35, 3) := by decide +kernel
theorem dX10_gap_22 : decode cX10_gap 22 = .ok (.aload_n 0, 1) := by decide +kernel
theorem dX10_gap_23 : decode cX10_gap 23 = .ok (.iload_n 1, 1) := by decide +kernel
theorem dX10_gap_24 : decode cX10_gap 24 = .ok (.iload_n 2, 1) := by decide +kernel
theorem dX10_gap_25 : decode cX10_gap 25 = .ok (.invokevirtual 128, 3) := by decide +kernel
theorem dX10_gap_28 : decode cX10_gap 28 = .ok (.baload, 1) := by decide +kernel
theorem dX10_gap_29 : decode cX10_gap 29 = .ok (.ifCond .eq 7, 3) := by decide +kernel
theorem dX10_gap_32 : decode cX10_gap 32 = .ok (.iconst 1, 1) := by decide +kernel
theorem dX10_gap_33 : decode cX10_gap 33 = .ok (.goto 4, 3) := by decide +kernel
theorem dX10_gap_36 : decode cX10_gap 36 = .ok (.iconst 0, 1) := by decide +kernel
theorem dX10_gap_37 : decode cX10_gap 37 = .ok (.istore_n 3, 1) := by decide +kernel
theorem dX10_gap_38 : decode cX10_gap 38 = .ok (.aload_n 0, 1) := by decide +kernel
theorem dX10_gap_39 : decode cX10_gap 39 = .ok (.getfield 35, 3) := by decide +kernel
theorem dX10_gap_42 : decode cX10_gap 42 = .ok (.aload_n 0, 1) := by decide +kernel
theorem dX10_gap_43 : decode cX10_gap 43 = .ok (.iload_n 1, 1) := by decide +kernel
theorem dX10_gap_44 : decode cX10_gap 44 = .ok (.iload_n 2, 1) := by decide +kernel
theorem dX10_gap_45 : decode cX10_gap 45 = .ok (.invokevirtual 128, 3) := by decide +kernel
theorem dX10_gap_48 : decode cX10_gap 48 = .ok (.iconst 0, 1) := by decide +kernel
theorem dX10_gap_49 : decode cX10_gap 49 = .ok (.bastore, 1) := by decide +kernel
theorem dX10_gap_50 : decode cX10_gap 50 = .ok (.iload_n 3, 1) := by decide +kernel
theorem dX10_gap_51 : decode cX10_gap 51 = .ok (.ireturn, 1) := by decide +kernel
set_option maxRecDepth 20000 in
theorem ggX10_step_X10_isMark : GoodIn wsX10_step wsX10_isMark := goodIn_r _ [8, 9, 10, 11, 12, 7, 13, 18, 19, 20, 21, 22, 23, 24, 25, 26, 27, 28, 29, 30, 31, 32, 33, 34, 35, 36, 37, 38, 39, 40, 41, 42, 43, 44, 45, 46, 47, 48, 49, 50] (by decide +kernel) (by decide +kernel)
set_option maxRecDepth 20000 in
theorem gX10_step_X10_isMark : GoodIn wsX10_step (wsV RX10 116 RX10 yX10_isMark wsX10_isMark) := goodIn_app (goodIn_of _ (by decide +kernel)) ggX10_step_X10_isMark
set_option maxRecDepth 20000 in
theorem ggX10_step_X10_isEpoch : GoodIn wsX10_step wsX10_isEpoch := goodIn_r _ [17, 10, 11, 12, 7, 13] (by decide +kernel) (by decide +kernel)
set_option maxRecDepth 20000 in
theorem gX10_step_X10_isEpoch : GoodIn wsX10_step (wsV RX10 120 RX10 yX10_isEpoch wsX10_isEpoch) := goodIn_app (goodIn_of _ (by decide +kernel)) ggX10_step_X10_isEpoch
set_option maxRecDepth 20000 in
theorem ggX10_step_X10_in : GoodIn wsX10_step wsX10_in := goodIn_r _ [13] (by decide +kernel) (by decide +kernel)
set_option maxRecDepth 20000 in
theorem gX10_step_X10_in : GoodIn wsX10_step (wsV RX10 112 RX10 yX10_in wsX10_in) := goodIn_app (goodIn_of _ (by decide +kernel)) ggX10_step_X10_in
theorem dX10_step_0 : decode cX10_step 0 = .ok (.aload_n 0, 1) := by decide +kernel
theorem dX10_step_1 : decode cX10_step 1 = .ok (.iload_n 1, 1) := by decide +kernel
theorem dX10_step_2 : decode cX10_step 2 = .ok (.invokevirtual 116, 3) := by decide +kernel
theorem dX10_step_5 : decode cX10_step 5 = .ok (.ifCond .eq 40, 3) := by decide +kernel
theorem dX10_step_8 : decode cX10_step 8 = .ok (.aload_n 0, 1) := by decide +kernel
theorem dX10_step_9 : decode cX10_step 9 = .ok (.iload_n 2, 1) := by decide +kernel
theorem dX10_step_10 : decode cX10_step 10 = .ok (.invokevirtual 120, 3) := by decide +kernel
theorem dX10_step_13 : decode cX10_step 13 = .ok (.ifCond .eq 32, 3) := by decide +kernel
theorem dX10_step_16 : decode cX10_step 16 = .ok (.aload_n 0, 1) := by decide +kernel
theorem dX10_step_17 : decode cX10_step 17 = .ok (.iload_n 3, 1) := by decide +kernel
theorem dX10_step_18 : decode cX10_step 18 = .ok (.sipush (-10000), 3) := by decide +kernel
theorem dX10_step_21 : decode cX10_step 21 = .ok (.sipush 10000, 3) := by decide +kernel
theorem dX10_step_24 : decode cX10_step 24 = .ok (.invokevirtual 112, 3) := by decide +kernel
theorem dX10_step_27 : decode cX10_step 27 = .ok (.ifCond .eq 18, 3) := by decide +kernel
theorem dX10_step_30 : decode cX10_step 30 = .ok (.aload_n 0, 1) := by decide +kernel
theorem dX10_step_31 : decode cX10_step 31 = .ok (.iload 4, 2) := by decide +kernel
theorem dX10_step_33 : decode cX10_step 33 = .ok (.sipush (-10000), 3) := by decide +kernel
theorem dX10_step_36 : decode cX10_step 36 = .ok (.sipush 10000, 3) := by decide +kernel
theorem dX10_step_39 : decode cX10_step 39 = .ok (.invokevirtual 112, 3) := by decide +kernel
theorem dX10_step_42 : decode cX10_step 42 = .ok (.ifCond .ne 5, 3) := by decide +kernel
theorem dX10_step_45 : decode cX10_step 45 = .ok (.iconst (-1), 1) := by decide +kernel
theorem dX10_step_46 : decode cX10_step 46 = .ok (.ireturn, 1) := by decide +kernel
theorem dX10_step_47 : decode cX10_step 47 = .ok (.aload_n 0, 1) := by decide +kernel
theorem dX10_step_48 : decode cX10_step 48 = .ok (.getfield 32, 3) := by decide +kernel
theorem dX10_step_51 : decode cX10_step 51 = .ok (.iload_n 1, 1) := by decide +kernel
theorem dX10_step_52 : decode cX10_step 52 = .ok (.iaload, 1) := by decide +kernel
theorem dX10_step_53 : decode cX10_step 53 = .ok (.bipush 10, 2) := by decide +kernel
theorem dX10_step_55 : decode cX10_step 55 = .ok (.if_icmp .ne 6, 3) := by decide +kernel
theorem dX10_step_58 : decode cX10_step 58 = .ok (.bipush (-2), 2) := by decide +kernel
theorem dX10_step_60 : decode cX10_step 60 = .ok (.ireturn, 1) := by decide +kernel
theorem dX10_step_61 : decode cX10_step 61 = .ok (.bipush 10, 2) := by decide +kernel
theorem dX10_step_63 : decode cX10_step 63 = .ok (.iload_n 1, 1) := by decide +kernel
theorem dX10_step_64 : decode cX10_step 64 = .ok (.imul, 1) := by decide +kernel
theorem dX10_step_65 : decode cX10_step 65 = .ok (.aload_n 0, 1) := by decide +kernel
theorem dX10_step_66 : decode cX10_step 66 = .ok (.getfield 32, 3) := by decide +kernel
theorem dX10_step_69 : decode cX10_step 69 = .ok (.iload_n 1, 1) := by decide +kernel
theorem dX10_step_70 : decode cX10_step 70 = .ok (.iaload, 1) := by decide +kernel
theorem dX10_step_71 : decode cX10_step 71 = .ok (.iadd, 1) := by decide +kernel
theorem dX10_step_72 : decode cX10_step 72 = .ok (.istore 5, 2) := by decide +kernel
theorem dX10_step_74 : decode cX10_step 74 = .ok (.aload_n 0, 1) := by decide +kernel
theorem dX10_step_75 : decode cX10_step 75 = .ok (.getfield 42, 3) := by decide +kernel
theorem dX10_step_78 : decode cX10_step 78 = .ok (.iload 5, 2) := by decide +kernel
theorem dX10_step_80 : decode cX10_step 80 = .ok (.iload_n 2, 1) := by decide +kernel
theorem dX10_step_81 : decode cX10_step 81 = .ok (.iastore, 1) := by decide +kernel
theorem dX10_step_82 : decode cX10_step 82 = .ok (.aload_n 0, 1) := by decide +kernel
theorem dX10_step_83 : decode cX10_step 83 = .ok (.getfield 45, 3) := by decide +kernel
theorem dX10_step_86 : decode cX10_step 86 = .ok (.iconst 2, 1) := by decide +kernel
theorem dX10_step_87 : decode cX10_step 87 = .ok (.iload 5, 2) := by decide +kernel
theorem dX10_step_89 : decode cX10_step 89 = .ok (.imul, 1) := by decide +kernel
theorem dX10_step_90 : decode cX10_step 90 = .ok (.iload_n 3, 1) := by decide +kernel
theorem dX10_step_91 : decode cX10_step 91 = .ok (.iastore, 1) := by decide +kernel
theorem dX10_step_92 : decode cX10_step 92 = .ok (.aload_n 0, 1) := by decide +kernel
theorem dX10_step_93 : decode cX10_step 93 = .ok (.getfield 45, 3) := by decide +kernel
theorem dX10_step_96 : decode cX10_step 96 = .ok (.iconst 2, 1) := by decide +kernel
theorem dX10_step_97 : decode cX10_step 97 = .ok (.iload 5, 2) := by decide +kernel
theorem dX10_step_99 : decode cX10_step 99 = .ok (.imul, 1) := by decide +kernel
theorem dX10_step_100 : decode cX10_step 100 = .ok (.iconst 1, 1) := by decide +kernel
theorem dX10_step_101 : decode cX10_step 101 = .ok (.iadd, 1) := by decide +kernel
theorem dX10_step_102 : decode cX10_step 102 = .ok (.iload 4, 2) := by decide +kernel
theorem dX10_step_104 : decode cX10_step 104 = .ok (.iastore, 1) := by decide +kernel
theorem dX10_step_105 : decode cX10_step 105 = .ok (.aload_n 0, 1) := by decide +kernel
theorem dX10_step_106 : decode cX10_step 106 = .ok (.getfield 32, 3) := by decide +kernel
theorem dX10_step_109 : decode cX10_step 109 = .ok (.iload_n 1, 1) := by decide +kernel
theorem dX10_step_110 : decode cX10_step 110 = .ok (.dup2, 1) := by decide +kernel
theorem dX10_step_111 : decode cX10_step 111 = .ok (.iaload, 1) := by decide +kernel
theorem dX10_step_112 : decode cX10_step 112 = .ok (.iconst 1, 1) := by decide +kernel
theorem dX10_step_113 : decode cX10_step 113 = .ok (.iadd, 1) := by decide +kernel
theorem dX10_step_114 : decode cX10_step 114 = .ok (.iastore, 1) := by decide +kernel
theorem dX10_step_115 : decode cX10_step 115 = .ok (.aload_n 0, 1) := by decide +kernel
theorem dX10_step_116 : decode cX10_step 116 = .ok (.getfield 32, 3) := by decide +kernel
theorem dX10_step_119 : decode cX10_step 119 = .ok (.iload_n 1, 1) := by decide +kernel
theorem dX10_step_120 : decode cX10_step 120 = .ok (.iaload, 1) := by decide +kernel
theorem dX10_step_121 : decode cX10_step 121 = .ok (.ireturn, 1) := by decide +kernel
set_option maxRecDepth 20000 in
theorem ggX10_isLeftOut_X10_spot : GoodIn wsX10_isLeftOut wsX10_spot := goodIn_r _ [7] (by decide +kernel) (by decide +kernel)
set_option maxRecDepth 20000 in
theorem gX10_isLeftOut_X10_spot : GoodIn wsX10_isLeftOut (wsV RX10 128 RX10 yX10_spot wsX10_spot) := goodIn_app (goodIn_of _ (by decide +kernel)) ggX10_isLeftOut_X10_spot
theorem dX10_isLeftOut_0 : decode cX10_isLeftOut 0 = .ok (.iconst 0, 1) := by decide +kernel
theorem dX10_isLeftOut_1 : decode cX10_isLeftOut 1 = .ok (.istore_n 3, 1) := by decide +kernel
theorem dX10_isLeftOut_2 : decode cX10_isLeftOut 2 = .ok (.iconst 0, 1) := by decide +kernel
theorem dX10_isLeftOut_3 : decode cX10_isLeftOut 3 = .ok (.istore 4, 2) := by decide +kernel
theorem dX10_isLeftOut_5 : decode cX10_isLeftOut 5 = .ok (.iload 4, 2) := by decide +kernel
theorem dX10_isLeftOut_7 : decode cX10_isLeftOut 7 = .ok (.iload_n 2, 1) := by decide +kernel
theorem dX10_isLeftOut_8 : decode cX10_isLeftOut 8 = .ok (.if_icmp .ge 32, 3) := by decide +kernel
theorem dX10_isLeftOut_11 : decode cX10_isLeftOut 11 = .ok (.iload_n 3, 1) := by decide +kernel
theorem dX10_isLeftOut_12 : decode cX10_isLeftOut 12 = .ok (.aload_n 0, 1) := by decide +kernel
theorem dX10_isLeftOut_13 : decode cX10_isLeftOut 13 = .ok (.getfield 35, 3) := by decide +kernel
theorem dX10_isLeftOut_16 : decode cX10_isLeftOut 16 = .ok (.aload_n 0, 1) := by decide +kernel
theorem dX10_isLeftOut_17 : decode cX10_isLeftOut 17 = .ok (.iload_n 1, 1) := by decide +kernel
theorem dX10_isLeftOut_18 : decode cX10_isLeftOut 18 = .ok (.iload 4, 2) := by decide +kernel
theorem dX10_isLeftOut_20 : decode cX10_isLeftOut 20 = .ok (.invokevirtual 128, 3) := by decide +kernel
theorem dX10_isLeftOut_23 : decode cX10_isLeftOut 23 = .ok (.baload, 1) := by decide +kernel
theorem dX10_isLeftOut_24 : decode cX10_isLeftOut 24 = .ok (.ifCond .eq 7, 3) := by decide +kernel
theorem dX10_isLeftOut_27 : decode cX10_isLeftOut 27 = .ok (.iconst 1, 1) := by decide +kernel
theorem dX10_isLeftOut_28 : decode cX10_isLeftOut 28 = .ok (.goto 4, 3) := by decide +kernel
theorem dX10_isLeftOut_31 : decode cX10_isLeftOut 31 = .ok (.iconst 0, 1) := by decide +kernel
theorem dX10_isLeftOut_32 : decode cX10_isLeftOut 32 = .ok (.iadd, 1) := by decide +kernel
theorem dX10_isLeftOut_33 : decode cX10_isLeftOut 33 = .ok (.istore_n 3, 1) := by decide +kernel
theorem dX10_isLeftOut_34 : decode cX10_isLeftOut 34 = .ok (.iinc 4 1, 3) := by decide +kernel
theorem dX10_isLeftOut_37 : decode cX10_isLeftOut 37 = .ok (.goto (-32), 3) := by decide +kernel
theorem dX10_isLeftOut_40 : decode cX10_isLeftOut 40 = .ok (.aload_n 0, 1) := by decide +kernel
theorem dX10_isLeftOut_41 : decode cX10_isLeftOut 41 = .ok (.getfield 16, 3) := by decide +kernel
theorem dX10_isLeftOut_44 : decode cX10_isLeftOut 44 = .ok (.iload_n 1, 1) := by decide +kernel
theorem dX10_isLeftOut_45 : decode cX10_isLeftOut 45 = .ok (.iaload, 1) := by decide +kernel
theorem dX10_isLeftOut_46 : decode cX10_isLeftOut 46 = .ok (.iconst 2, 1) := by decide +kernel
theorem dX10_isLeftOut_47 : decode cX10_isLeftOut 47 = .ok (.if_icmp .ne 12, 3) := by decide +kernel
theorem dX10_isLeftOut_50 : decode cX10_isLeftOut 50 = .ok (.iload_n 3, 1) := by decide +kernel
theorem dX10_isLeftOut_51 : decode cX10_isLeftOut 51 = .ok (.iconst 2, 1) := by decide +kernel
theorem dX10_isLeftOut_52 : decode cX10_isLeftOut 52 = .ok (.if_icmp .ge 7, 3) := by decide +kernel
theorem dX10_isLeftOut_55 : decode cX10_isLeftOut 55 = .ok (.iconst 1, 1) := by decide +kernel
theorem dX10_isLeftOut_56 : decode cX10_isLeftOut 56 = .ok (.goto 4, 3) := by decide +kernel
theorem dX10_isLeftOut_59 : decode cX10_isLeftOut 59 = .ok (.iconst 0, 1) := by decide +kernel
theorem dX10_isLeftOut_60 : decode cX10_isLeftOut 60 = .ok (.ireturn, 1) := by decide +kernel
set_option maxRecDepth 20000 in
theorem ggX10_isCleared_X10_spot : GoodIn wsX10_isCleared wsX10_spot := goodIn_r _ [6] (by decide +kernel) (by decide +kernel)
set_option maxRecDepth 20000 in
theorem gX10_isCleared_X10_spot : GoodIn wsX10_isCleared (wsV RX10 128 RX10 yX10_spot wsX10_spot) := goodIn_app (goodIn_of _ (by decide +kernel)) ggX10_isCleared_X10_spot
set_option maxRecDepth 20000 in
theorem ggX10_isCleared_X10_isLeftOut : GoodIn wsX10_isCleared wsX10_isLeftOut := goodIn_r _ [10, 1, 11, 2, 3, 4, 5, 6, 12, 13, 14, 15, 16, 17, 18, 19, 20, 21, 22, 23, 24, 25, 26, 27, 28, 29, 30, 31, 32, 33, 34, 35, 36, 37, 38, 39, 40, 41, 42, 43, 44] (by decide +kernel) (by decide +kernel)
set_option maxRecDepth 20000 in
theorem gX10_isCleared_X10_isLeftOut : GoodIn wsX10_isCleared (wsV RX10 132 RX10 yX10_isLeftOut wsX10_isLeftOut) := goodIn_app (goodIn_of _ (by decide +kernel)) ggX10_isCleared_X10_isLeftOut
theorem dX10_isCleared_0 : decode cX10_isCleared 0 = .ok (.aload_n 0, 1) := by decide +kernel
theorem dX10_isCleared_1 : decode cX10_isCleared 1 = .ok (.getfield 35, 3) := by decide +kernel
theorem dX10_isCleared_4 : decode cX10_isCleared 4 = .ok (.aload_n 0, 1) := by decide +kernel
theorem dX10_isCleared_5 : decode cX10_isCleared 5 = .ok (.iload_n 1, 1) := by decide +kernel
theorem dX10_isCleared_6 : decode cX10_isCleared 6 = .ok (.iload_n 2, 1) := by decide +kernel
theorem dX10_isCleared_7 : decode cX10_isCleared 7 = .ok (.invokevirtual 128, 3) := by decide +kernel
theorem dX10_isCleared_10 : decode cX10_isCleared 10 = .ok (.baload, 1) := by decide +kernel
theorem dX10_isCleared_11 : decode cX10_isCleared 11 = .ok (.ifCond .eq 16, 3) := by decide +kernel
theorem dX10_isCleared_14 : decode cX10_isCleared 14 = .ok (.aload_n 0, 1) := by decide +kernel
theorem dX10_isCleared_15 : decode cX10_isCleared 15 = .ok (.iload_n 1, 1) := by decide +kernel
theorem dX10_isCleared_16 : decode cX10_isCleared 16 = .ok (.iload_n 2, 1) := by decide +kernel
theorem dX10_isCleared_17 : decode cX10_isCleared 17 = .ok (.invokevirtual 132, 3) := by decide +kernel
theorem dX10_isCleared_20 : decode cX10_isCleared 20 = .ok (.ifCond .ne 7, 3) := by decide +kernel
theorem dX10_isCleared_23 : decode cX10_isCleared 23 = .ok (.iconst 1, 1) := by decide +kernel
theorem dX10_isCleared_24 : decode cX10_isCleared 24 = .ok (.goto 4, 3) := by decide +kernel
theorem dX10_isCleared_27 : decode cX10_isCleared 27 = .ok (.iconst 0, 1) := by decide +kernel
theorem dX10_isCleared_28 : decode cX10_isCleared 28 = .ok (.ireturn, 1) := by decide +kernel
set_option maxRecDepth 20000 in
theorem ggX10_withoutSteps_X10_spot : GoodIn wsX10_withoutSteps wsX10_spot := goodIn_r _ [9] (by decide +kernel) (by decide +kernel)
set_option maxRecDepth 20000 in
theorem gX10_withoutSteps_X10_spot : GoodIn wsX10_withoutSteps (wsV RX10 128 RX10 yX10_spot wsX10_spot) := goodIn_app (goodIn_of _ (by decide +kernel)) ggX10_withoutSteps_X10_spot
theorem dX10_withoutSteps_0 : decode cX10_withoutSteps 0 = .ok (.aload_n 0, 1) := by decide +kernel
theorem dX10_withoutSteps_1 : decode cX10_withoutSteps 1 = .ok (.getfield 39, 3) := by decide +kernel
theorem dX10_withoutSteps_4 : decode cX10_withoutSteps 4 = .ok (.iconst 2, 1) := by decide +kernel
theorem dX10_withoutSteps_5 : decode cX10_withoutSteps 5 = .ok (.aload_n 0, 1) := by decide +kernel
theorem dX10_withoutSteps_6 : decode cX10_withoutSteps 6 = .ok (.iload_n 1, 1) := by decide +kernel
theorem dX10_withoutSteps_7 : decode cX10_withoutSteps 7 = .ok (.iload_n 2, 1) := by decide +kernel
theorem dX10_withoutSteps_8 : decode cX10_withoutSteps 8 = .ok (.invokevirtual 128, 3) := by decide +kernel
theorem dX10_withoutSteps_11 : decode cX10_withoutSteps 11 = .ok (.imul, 1) := by decide +kernel
theorem dX10_withoutSteps_12 : decode cX10_withoutSteps 12 = .ok (.iload_n 3, 1) := by decide +kernel
theorem dX10_withoutSteps_13 : decode cX10_withoutSteps 13 = .ok (.iadd, 1) := by decide +kernel
theorem dX10_withoutSteps_14 : decode cX10_withoutSteps 14 = .ok (.iaload, 1) := by decide +kernel
theorem dX10_withoutSteps_15 : decode cX10_withoutSteps 15 = .ok (.i2l, 1) := by decide +kernel
theorem dX10_withoutSteps_16 : decode cX10_withoutSteps 16 = .ok (.lstore 4, 2) := by decide +kernel
theorem dX10_withoutSteps_18 : decode cX10_withoutSteps 18 = .ok (.bipush 10, 2) := by decide +kernel
theorem dX10_withoutSteps_20 : decode cX10_withoutSteps 20 = .ok (.iload_n 1, 1) := by decide +kernel
theorem dX10_withoutSteps_21 : decode cX10_withoutSteps 21 = .ok (.imul, 1) := by decide +kernel
theorem dX10_withoutSteps_22 : decode cX10_withoutSteps 22 = .ok (.istore 6, 2) := by decide +kernel
theorem dX10_withoutSteps_24 : decode cX10_withoutSteps 24 = .ok (.iload 6, 2) := by decide +kernel
theorem dX10_withoutSteps_26 : decode cX10_withoutSteps 26 = .ok (.bipush 10, 2) := by decide +kernel
theorem dX10_withoutSteps_28 : decode cX10_withoutSteps 28 = .ok (.iload_n 1, 1) := by decide +kernel
theorem dX10_withoutSteps_29 : decode cX10_withoutSteps 29 = .ok (.imul, 1) := by decide +kernel
theorem dX10_withoutSteps_30 : decode cX10_withoutSteps 30 = .ok (.aload_n 0, 1) := by decide +kernel
theorem dX10_withoutSteps_31 : decode cX10_withoutSteps 31 = .ok (.getfield 32, 3) := by decide +kernel
theorem dX10_withoutSteps_34 : decode cX10_withoutSteps 34 = .ok (.iload_n 1, 1) := by decide +kernel
theorem dX10_withoutSteps_35 : decode cX10_withoutSteps 35 = .ok (.iaload, 1) := by decide +kernel
theorem dX10_withoutSteps_36 : decode cX10_withoutSteps 36 = .ok (.iadd, 1) := by decide +kernel
theorem dX10_withoutSteps_37 : decode cX10_withoutSteps 37 = .ok (.if_icmp .ge 41, 3) := by decide +kernel
theorem dX10_withoutSteps_40 : decode cX10_withoutSteps 40 = .ok (.lload 4, 2) := by decide +kernel
theorem dX10_withoutSteps_42 : decode cX10_withoutSteps 42 = .ok (.aload_n 0, 1) := by decide +kernel
theorem dX10_withoutSteps_43 : decode cX10_withoutSteps 43 = .ok (.getfield 42, 3) := by decide +kernel
theorem dX10_withoutSteps_46 : decode cX10_withoutSteps 46 = .ok (.iload 6, 2) := by decide +kernel
theorem dX10_withoutSteps_48 : decode cX10_withoutSteps 48 = .ok (.iaload, 1) := by decide +kernel
theorem dX10_withoutSteps_49 : decode cX10_withoutSteps 49 = .ok (.iload_n 2, 1) := by decide +kernel
theorem dX10_withoutSteps_50 : decode cX10_withoutSteps 50 = .ok (.if_icmp .gt 18, 3) := by decide +kernel
theorem dX10_withoutSteps_53 : decode cX10_withoutSteps 53 = .ok (.aload_n 0, 1) := by decide +kernel
theorem dX10_withoutSteps_54 : decode cX10_withoutSteps 54 = .ok (.getfield 45, 3) := by decide +kernel
theorem dX10_withoutSteps_57 : decode cX10_withoutSteps 57 = .ok (.iconst 2, 1) := by decide +kernel
theorem dX10_withoutSteps_58 : decode cX10_withoutSteps 58 = .ok (.iload 6, 2) := by decide +kernel
theorem dX10_withoutSteps_60 : decode cX10_withoutSteps 60 = .ok (.imul, 1) := by decide +kernel
theorem dX10_withoutSteps_61 : decode cX10_withoutSteps 61 = .ok (.iload_n 3, 1) := by decide +kernel
theorem dX10_withoutSteps_62 : decode cX10_withoutSteps 62 = .ok (.iadd, 1) := by decide +kernel
theorem dX10_withoutSteps_63 : decode cX10_withoutSteps 63 = .ok (.iaload, 1) := by decide +kernel
theorem dX10_withoutSteps_64 : decode cX10_withoutSteps 64 = .ok (.i2l, 1) := by decide +kernel
theorem dX10_withoutSteps_65 : decode cX10_withoutSteps 65 = .ok (.goto 4, 3) := by decide +kernel
theorem dX10_withoutSteps_68 : decode cX10_withoutSteps 68 = .ok (.lconst 0, 1) := by decide +kernel
theorem dX10_withoutSteps_69 : decode cX10_withoutSteps 69 = .ok (.lsub, 1) := by decide +kernel
theorem dX10_withoutSteps_70 : decode cX10_withoutSteps 70 = .ok (.lstore 4, 2) := by decide +kernel
theorem dX10_withoutSteps_72 : decode cX10_withoutSteps 72 = .ok (.iinc 6 1, 3) := by decide +kernel
theorem dX10_withoutSteps_75 : decode cX10_withoutSteps 75 = .ok (.goto (-51), 3) := by decide +kernel
theorem dX10_withoutSteps_78 : decode cX10_withoutSteps 78 = .ok (.lload 4, 2) := by decide +kernel
theorem dX10_withoutSteps_80 : decode cX10_withoutSteps 80 = .ok (.lreturn, 1) := by decide +kernel
set_option maxRecDepth 20000 in
theorem ggX10_meanOf_X10_spot : GoodIn wsX10_meanOf wsX10_spot := goodIn_r _ [7] (by decide +kernel) (by decide +kernel)
set_option maxRecDepth 20000 in
theorem gX10_meanOf_X10_spot : GoodIn wsX10_meanOf (wsV RX10 128 RX10 yX10_spot wsX10_spot) := goodIn_app (goodIn_of _ (by decide +kernel)) ggX10_meanOf_X10_spot
theorem dX10_meanOf_0 : decode cX10_meanOf 0 = .ok (.lconst 0, 1) := by decide +kernel
theorem dX10_meanOf_1 : decode cX10_meanOf 1 = .ok (.lstore 4, 2) := by decide +kernel
theorem dX10_meanOf_3 : decode cX10_meanOf 3 = .ok (.iconst 0, 1) := by decide +kernel
theorem dX10_meanOf_4 : decode cX10_meanOf 4 = .ok (.istore 6, 2) := by decide +kernel
theorem dX10_meanOf_6 : decode cX10_meanOf 6 = .ok (.iload_n 2, 1) := by decide +kernel
theorem dX10_meanOf_7 : decode cX10_meanOf 7 = .ok (.istore 7, 2) := by decide +kernel
theorem dX10_meanOf_9 : decode cX10_meanOf 9 = .ok (.iload 7, 2) := by decide +kernel
theorem dX10_meanOf_11 : decode cX10_meanOf 11 = .ok (.bipush 40, 2) := by decide +kernel
theorem dX10_meanOf_13 : decode cX10_meanOf 13 = .ok (.if_icmp .ge 52, 3) := by decide +kernel
theorem dX10_meanOf_16 : decode cX10_meanOf 16 = .ok (.aload_n 0, 1) := by decide +kernel
theorem dX10_meanOf_17 : decode cX10_meanOf 17 = .ok (.getfield 35, 3) := by decide +kernel
theorem dX10_meanOf_20 : decode cX10_meanOf 20 = .ok (.aload_n 0, 1) := by decide +kernel
theorem dX10_meanOf_21 : decode cX10_meanOf 21 = .ok (.iload_n 1, 1) := by decide +kernel
theorem dX10_meanOf_22 : decode cX10_meanOf 22 = .ok (.iload 7, 2) := by decide +kernel
theorem dX10_meanOf_24 : decode cX10_meanOf 24 = .ok (.invokevirtual 128, 3) := by decide +kernel
theorem dX10_meanOf_27 : decode cX10_meanOf 27 = .ok (.baload, 1) := by decide +kernel
theorem dX10_meanOf_28 : decode cX10_meanOf 28 = .ok (.ifCond .ne 6, 3) := by decide +kernel
theorem dX10_meanOf_31 : decode cX10_meanOf 31 = .ok (.goto 28, 3) := by decide +kernel
theorem dX10_meanOf_34 : decode cX10_meanOf 34 = .ok (.lload 4, 2) := by decide +kernel
theorem dX10_meanOf_36 : decode cX10_meanOf 36 = .ok (.aload_n 0, 1) := by decide +kernel
theorem dX10_meanOf_37 : decode cX10_meanOf 37 = .ok (.getfield 39, 3) := by decide +kernel
theorem dX10_meanOf_40 : decode cX10_meanOf 40 = .ok (.iconst 2, 1) := by decide +kernel
theorem dX10_meanOf_41 : decode cX10_meanOf 41 = .ok (.aload_n 0, 1) := by decide +kernel
theorem dX10_meanOf_42 : decode cX10_meanOf 42 = .ok (.iload_n 1, 1) := by decide +kernel
theorem dX10_meanOf_43 : decode cX10_meanOf 43 = .ok (.iload 7, 2) := by decide +kernel
theorem dX10_meanOf_45 : decode cX10_meanOf 45 = .ok (.invokevirtual 128, 3) := by decide +kernel
theorem dX10_meanOf_48 : decode cX10_meanOf 48 = .ok (.imul, 1) := by decide +kernel
theorem dX10_meanOf_49 : decode cX10_meanOf 49 = .ok (.iload_n 3, 1) := by decide +kernel
theorem dX10_meanOf_50 : decode cX10_meanOf 50 = .ok (.iadd, 1) := by decide +kernel
theorem dX10_meanOf_51 : decode cX10_meanOf 51 = .ok (.iaload, 1) := by decide +kernel
theorem dX10_meanOf_52 : decode cX10_meanOf 52 = .ok (.i2l, 1) := by decide +kernel
theorem dX10_meanOf_53 : decode cX10_meanOf 53 = .ok (.ladd, 1) := by decide +kernel
theorem dX10_meanOf_54 : decode cX10_meanOf 54 = .ok (.lstore 4, 2) := by decide +kernel
theorem dX10_meanOf_56 : decode cX10_meanOf 56 = .ok (.iinc 6 1, 3) := by decide +kernel
theorem dX10_meanOf_59 : decode cX10_meanOf 59 = .ok (.iinc 7 4, 3) := by decide +kernel
theorem dX10_meanOf_62 : decode cX10_meanOf 62 = .ok (.goto (-53), 3) := by decide +kernel
theorem dX10_meanOf_65 : decode cX10_meanOf 65 = .ok (.lload 4, 2) := by decide +kernel
theorem dX10_meanOf_67 : decode cX10_meanOf 67 = .ok (.iload 6, 2) := by decide +kernel
theorem dX10_meanOf_69 : decode cX10_meanOf 69 = .ok (.i2l, 1) := by decide +kernel
theorem dX10_meanOf_70 : decode cX10_meanOf 70 = .ok (.ldiv, 1) := by decide +kernel
theorem dX10_meanOf_71 : decode cX10_meanOf 71 = .ok (.lreturn, 1) := by decide +kernel
set_option maxRecDepth 20000 in
theorem ggX10_clear_X10_withoutSteps : GoodIn wsX10_clear wsX10_withoutSteps := goodIn_r _ [8, 9, 10, 11, 12, 13, 14, 15, 7, 16, 26, 27, 28, 29, 30, 31, 32, 33, 34, 35, 36, 37, 38, 39, 40, 41, 42, 43, 44, 45, 46, 47, 48, 49, 50, 51, 52, 53, 54, 55, 56, 57, 58] (by decide +kernel) (by decide +kernel)
set_option maxRecDepth 20000 in
theorem gX10_clear_X10_withoutSteps : GoodIn wsX10_clear (wsV RX10 136 RX10 yX10_withoutSteps wsX10_withoutSteps) := goodIn_app (goodIn_of _ (by decide +kernel)) ggX10_clear_X10_withoutSteps
set_option maxRecDepth 20000 in
theorem ggX10_clear_X10_hasAntenna : GoodIn wsX10_clear wsX10_hasAntenna := goodIn_r _ [20, 3, 26, 27, 28, 29, 30, 31, 32, 33, 34, 35, 36, 37, 38, 39, 40, 41, 42, 43, 44, 45, 46, 47, 48, 49, 50, 51, 52, 53, 54, 55, 56, 57, 58] (by decide +kernel) (by decide +kernel)
set_option maxRecDepth 20000 in
theorem gX10_clear_X10_hasAntenna : GoodIn wsX10_clear (wsV RX10 123 RX10 yX10_hasAntenna wsX10_hasAntenna) := goodIn_app (goodIn_of _ (by decide +kernel)) ggX10_clear_X10_hasAntenna
set_option maxRecDepth 20000 in
theorem ggX10_clear_X10_meanOf : GoodIn wsX10_clear wsX10_meanOf := goodIn_r _ [24, 25, 9, 13, 14, 15, 7, 16, 26, 27, 28, 29, 30, 31, 32, 33, 34, 35, 36, 37, 38, 39, 40, 41, 42, 43, 44, 45, 46, 47, 48, 49, 50, 51, 52, 53, 54, 55, 56, 57, 58] (by decide +kernel) (by decide +kernel)
set_option maxRecDepth 20000 in
theorem gX10_clear_X10_meanOf : GoodIn wsX10_clear (wsV RX10 140 RX10 yX10_meanOf wsX10_meanOf) := goodIn_app (goodIn_of _ (by decide +kernel)) ggX10_clear_X10_meanOf
theorem dX10_clear_0 : decode cX10_clear 0 = .ok (.aload_n 0, 1) := by decide +kernel
theorem dX10_clear_1 : decode cX10_clear 1 = .ok (.iload_n 1, 1) := by decide +kernel
theorem dX10_clear_2 : decode cX10_clear 2 = .ok (.iload_n 2, 1) := by decide +kernel
theorem dX10_clear_3 : decode cX10_clear 3 = .ok (.iload_n 3, 1) := by decide +kernel
theorem dX10_clear_4 : decode cX10_clear 4 = .ok (.invokevirtual 136, 3) := by decide +kernel
theorem dX10_clear_7 : decode cX10_clear 7 = .ok (.lstore 4, 2) := by decide +kernel
theorem dX10_clear_9 : decode cX10_clear 9 = .ok (.aload_n 0, 1) := by decide +kernel
theorem dX10_clear_10 : decode cX10_clear 10 = .ok (.iload_n 1, 1) := by decide +kernel
theorem dX10_clear_11 : decode cX10_clear 11 = .ok (.invokevirtual 123, 3) := by decide +kernel
theorem dX10_clear_14 : decode cX10_clear 14 = .ok (.ifCond .eq 25, 3) := by decide +kernel
theorem dX10_clear_17 : decode cX10_clear 17 = .ok (.iload_n 2, 1) := by decide +kernel
theorem dX10_clear_18 : decode cX10_clear 18 = .ok (.aload_n 0, 1) := by decide +kernel
theorem dX10_clear_19 : decode cX10_clear 19 = .ok (.getfield 29, 3) := by decide +kernel
theorem dX10_clear_22 : decode cX10_clear 22 = .ok (.iload_n 1, 1) := by decide +kernel
theorem dX10_clear_23 : decode cX10_clear 23 = .ok (.iaload, 1) := by decide +kernel
theorem dX10_clear_24 : decode cX10_clear 24 = .ok (.if_icmp .lt 15, 3) := by decide +kernel
theorem dX10_clear_27 : decode cX10_clear 27 = .ok (.lload 4, 2) := by decide +kernel
theorem dX10_clear_29 : decode cX10_clear 29 = .ok (.aload_n 0, 1) := by decide +kernel
theorem dX10_clear_30 : decode cX10_clear 30 = .ok (.getfield 26, 3) := by decide +kernel
theorem dX10_clear_33 : decode cX10_clear 33 = .ok (.iload_n 1, 1) := by decide +kernel
theorem dX10_clear_34 : decode cX10_clear 34 = .ok (.iaload, 1) := by decide +kernel
theorem dX10_clear_35 : decode cX10_clear 35 = .ok (.i2l, 1) := by decide +kernel
theorem dX10_clear_36 : decode cX10_clear 36 = .ok (.lsub, 1) := by decide +kernel
theorem dX10_clear_37 : decode cX10_clear 37 = .ok (.lstore 4, 2) := by decide +kernel
theorem dX10_clear_39 : decode cX10_clear 39 = .ok (.aload_n 0, 1) := by decide +kernel
theorem dX10_clear_40 : decode cX10_clear 40 = .ok (.getfield 16, 3) := by decide +kernel
theorem dX10_clear_43 : decode cX10_clear 43 = .ok (.iload_n 1, 1) := by decide +kernel
theorem dX10_clear_44 : decode cX10_clear 44 = .ok (.iaload, 1) := by decide +kernel
theorem dX10_clear_45 : decode cX10_clear 45 = .ok (.iconst 3, 1) := by decide +kernel
theorem dX10_clear_46 : decode cX10_clear 46 = .ok (.if_icmp .ne 18, 3) := by decide +kernel
theorem dX10_clear_49 : decode cX10_clear 49 = .ok (.lload 4, 2) := by decide +kernel
theorem dX10_clear_51 : decode cX10_clear 51 = .ok (.aload_n 0, 1) := by decide +kernel
theorem dX10_clear_52 : decode cX10_clear 52 = .ok (.iload_n 1, 1) := by decide +kernel
theorem dX10_clear_53 : decode cX10_clear 53 = .ok (.iload_n 2, 1) := by decide +kernel
theorem dX10_clear_54 : decode cX10_clear 54 = .ok (.iconst 4, 1) := by decide +kernel
theorem dX10_clear_55 : decode cX10_clear 55 = .ok (.irem, 1) := by decide +kernel
theorem dX10_clear_56 : decode cX10_clear 56 = .ok (.iload_n 3, 1) := by decide +kernel
theorem dX10_clear_57 : decode cX10_clear 57 = .ok (.invokevirtual 140, 3) := by decide +kernel
theorem dX10_clear_60 : decode cX10_clear 60 = .ok (.lsub, 1) := by decide +kernel
theorem dX10_clear_61 : decode cX10_clear 61 = .ok (.goto 5, 3) := by decide +kernel
theorem dX10_clear_64 : decode cX10_clear 64 = .ok (.lload 4, 2) := by decide +kernel
theorem dX10_clear_66 : decode cX10_clear 66 = .ok (.lreturn, 1) := by decide +kernel
set_option maxRecDepth 20000 in
theorem ggX10_cleared_X10_isMark : GoodIn wsX10_cleared wsX10_isMark := goodIn_r _ [6, 7, 8, 9, 10, 5, 11, 56, 57, 58, 59, 60, 61, 62, 63, 64, 65, 66, 67, 68, 69, 70, 71, 72, 73, 74, 75, 76, 77, 78, 79, 80, 81, 82, 83, 84, 85, 86, 87, 88] (by decide +kernel) (by decide +kernel)
set_option maxRecDepth 20000 in
theorem gX10_cleared_X10_isMark : GoodIn wsX10_cleared (wsV RX10 116 RX10 yX10_isMark wsX10_isMark) := goodIn_app (goodIn_of _ (by decide +kernel)) ggX10_cleared_X10_isMark
set_option maxRecDepth 20000 in
theorem ggX10_cleared_X10_isEpoch : GoodIn wsX10_cleared wsX10_isEpoch := goodIn_r _ [15, 8, 9, 10, 5, 11] (by decide +kernel) (by decide +kernel)
set_option maxRecDepth 20000 in
theorem gX10_cleared_X10_isEpoch : GoodIn wsX10_cleared (wsV RX10 120 RX10 yX10_isEpoch wsX10_isEpoch) := goodIn_app (goodIn_of _ (by decide +kernel)) ggX10_cleared_X10_isEpoch
set_option maxRecDepth 20000 in
theorem ggX10_cleared_X10_isSide : GoodIn wsX10_cleared wsX10_isSide := goodIn_r _ [19] (by decide +kernel) (by decide +kernel)
set_option maxRecDepth 20000 in
theorem gX10_cleared_X10_isSide : GoodIn wsX10_cleared (wsV RX10 143 RX10 yX10_isSide wsX10_isSide) := goodIn_app (goodIn_of _ (by decide +kernel)) ggX10_cleared_X10_isSide
set_option maxRecDepth 20000 in
theorem ggX10_cleared_X10_isCleared : GoodIn wsX10_cleared wsX10_isCleared := goodIn_r _ [23, 24, 25, 26, 27, 5, 28, 29, 30, 31, 32, 33, 56, 57, 58, 59, 60, 61, 62, 63, 64, 65, 66, 67, 68, 69, 70, 71, 72, 73, 74, 75, 76, 77, 78, 79, 80, 81, 82, 83, 84, 85, 86, 87, 88] (by decide +kernel) (by decide +kernel)
set_option maxRecDepth 20000 in
theorem gX10_cleared_X10_isCleared : GoodIn wsX10_cleared (wsV RX10 146 RX10 yX10_isCleared wsX10_isCleared) := goodIn_app (goodIn_of _ (by decide +kernel)) ggX10_cleared_X10_isCleared
set_option maxRecDepth 20000 in
theorem ggX10_cleared_X10_clear : GoodIn wsX10_cleared wsX10_clear := goodIn_r _ [37, 38, 39, 33, 40, 41, 42, 5, 43, 44, 45, 46, 47, 25, 26, 27, 28, 48, 49, 50, 51, 52, 53, 54, 55, 24, 56, 57, 58, 59, 60, 61, 62, 63, 64, 65, 66, 67, 68, 69, 70, 71, 72, 73, 74, 75, 76, 77, 78, 79, 80, 81, 82, 83, 84, 85, 86, 87, 88] (by decide +kernel) (by decide +kernel)
set_option maxRecDepth 20000 in
theorem gX10_cleared_X10_clear : GoodIn wsX10_cleared (wsV RX10 149 RX10 yX10_clear wsX10_clear) := goodIn_app (goodIn_of _ (by decide +kernel)) ggX10_cleared_X10_clear
theorem dX10_cleared_0 : decode cX10_cleared 0 = .ok (.aload_n 0, 1) := by decide +kernel
theorem dX10_cleared_1 : decode cX10_cleared 1 = .ok (.aload_n 0, 1) := by decide +kernel
theorem dX10_cleared_2 : decode cX10_cleared 2 = .ok (.iload_n 1, 1) := by decide +kernel
theorem dX10_cleared_3 : decode cX10_cleared 3 = .ok (.invokevirtual 116, 3) := by decide +kernel
theorem dX10_cleared_6 : decode cX10_cleared 6 = .ok (.ifCond .eq 19, 3) := by decide +kernel
theorem dX10_cleared_9 : decode cX10_cleared 9 = .ok (.aload_n 0, 1) := by decide +kernel
theorem dX10_cleared_10 : decode cX10_cleared 10 = .ok (.iload_n 2, 1) := by decide +kernel
theorem dX10_cleared_11 : decode cX10_cleared 11 = .ok (.invokevirtual 120, 3) := by decide +kernel
theorem dX10_cleared_14 : decode cX10_cleared 14 = .ok (.ifCond .eq 11, 3) := by decide +kernel
theorem dX10_cleared_17 : decode cX10_cleared 17 = .ok (.aload_n 0, 1) := by decide +kernel
end
section
theorem dX10_cleared_18 : decode cX10_cleared 18 = .ok (.iload_n 3, 1) := by decide +kernel
theorem dX10_cleared_19 : decode cX10_cleared 19 = .ok (.invokevirtual 143, 3) := by decide +kernel
theorem dX10_cleared_22 : decode cX10_cleared 22 = .ok (.ifCond .ne 7, 3) := by decide +kernel
theorem dX10_cleared_25 : decode cX10_cleared 25 = .ok (.iconst 1, 1) := by decide +kernel
theorem dX10_cleared_26 : decode cX10_cleared 26 = .ok (.goto 17, 3) := by decide +kernel
theorem dX10_cleared_29 : decode cX10_cleared 29 = .ok (.aload_n 0, 1) := by decide +kernel
theorem dX10_cleared_30 : decode cX10_cleared 30 = .ok (.iload_n 1, 1) := by decide +kernel
theorem dX10_cleared_31 : decode cX10_cleared 31 = .ok (.iload_n 2, 1) := by decide +kernel
theorem dX10_cleared_32 : decode cX10_cleared 32 = .ok (.invokevirtual 146, 3) := by decide +kernel
theorem dX10_cleared_35 : decode cX10_cleared 35 = .ok (.ifCond .eq 7, 3) := by decide +kernel
theorem dX10_cleared_38 : decode cX10_cleared 38 = .ok (.iconst 0, 1) := by decide +kernel
theorem dX10_cleared_39 : decode cX10_cleared 39 = .ok (.goto 4, 3) := by decide +kernel
theorem dX10_cleared_42 : decode cX10_cleared 42 = .ok (.iconst 2, 1) := by decide +kernel
theorem dX10_cleared_43 : decode cX10_cleared 43 = .ok (.putfield 7, 3) := by decide +kernel
theorem dX10_cleared_46 : decode cX10_cleared 46 = .ok (.aload_n 0, 1) := by decide +kernel
theorem dX10_cleared_47 : decode cX10_cleared 47 = .ok (.getfield 7, 3) := by decide +kernel
theorem dX10_cleared_50 : decode cX10_cleared 50 = .ok (.ifCond .le 7, 3) := by decide +kernel
theorem dX10_cleared_53 : decode cX10_cleared 53 = .ok (.lconst 0, 1) := by decide +kernel
theorem dX10_cleared_54 : decode cX10_cleared 54 = .ok (.goto 10, 3) := by decide +kernel
theorem dX10_cleared_57 : decode cX10_cleared 57 = .ok (.aload_n 0, 1) := by decide +kernel
theorem dX10_cleared_58 : decode cX10_cleared 58 = .ok (.iload_n 1, 1) := by decide +kernel
theorem dX10_cleared_59 : decode cX10_cleared 59 = .ok (.iload_n 2, 1) := by decide +kernel
theorem dX10_cleared_60 : decode cX10_cleared 60 = .ok (.iload_n 3, 1) := by decide +kernel
theorem dX10_cleared_61 : decode cX10_cleared 61 = .ok (.invokevirtual 149, 3) := by decide +kernel
theorem dX10_cleared_64 : decode cX10_cleared 64 = .ok (.lreturn, 1) := by decide +kernel
set_option maxRecDepth 20000 in
theorem ggX10_manyOf_X10_isCleared : GoodIn wsX10_manyOf wsX10_isCleared := goodIn_r _ [5, 6, 7, 8, 9, 4, 10, 11, 12, 13, 14, 15, 16, 17, 18, 19, 20, 21, 22, 23, 24, 25, 26, 27, 28, 29, 30, 31, 32, 33, 34, 35, 36, 37, 38, 39, 40, 41, 42, 43, 44, 45, 46, 47, 48] (by decide +kernel) (by decide +kernel)
set_option maxRecDepth 20000 in
theorem gX10_manyOf_X10_isCleared : GoodIn wsX10_manyOf (wsV RX10 146 RX10 yX10_isCleared wsX10_isCleared) := goodIn_app (goodIn_of _ (by decide +kernel)) ggX10_manyOf_X10_isCleared
theorem dX10_manyOf_0 : decode cX10_manyOf 0 = .ok (.iconst 0, 1) := by decide +kernel
theorem dX10_manyOf_1 : decode cX10_manyOf 1 = .ok (.istore_n 2, 1) := by decide +kernel
theorem dX10_manyOf_2 : decode cX10_manyOf 2 = .ok (.iconst 0, 1) := by decide +kernel
theorem dX10_manyOf_3 : decode cX10_manyOf 3 = .ok (.istore_n 3, 1) := by decide +kernel
theorem dX10_manyOf_4 : decode cX10_manyOf 4 = .ok (.iload_n 3, 1) := by decide +kernel
theorem dX10_manyOf_5 : decode cX10_manyOf 5 = .ok (.bipush 40, 2) := by decide +kernel
theorem dX10_manyOf_7 : decode cX10_manyOf 7 = .ok (.if_icmp .ge 26, 3) := by decide +kernel
theorem dX10_manyOf_10 : decode cX10_manyOf 10 = .ok (.iload_n 2, 1) := by decide +kernel
theorem dX10_manyOf_11 : decode cX10_manyOf 11 = .ok (.aload_n 0, 1) := by decide +kernel
theorem dX10_manyOf_12 : decode cX10_manyOf 12 = .ok (.iload_n 1, 1) := by decide +kernel
theorem dX10_manyOf_13 : decode cX10_manyOf 13 = .ok (.iload_n 3, 1) := by decide +kernel
theorem dX10_manyOf_14 : decode cX10_manyOf 14 = .ok (.invokevirtual 146, 3) := by decide +kernel
theorem dX10_manyOf_17 : decode cX10_manyOf 17 = .ok (.ifCond .eq 7, 3) := by decide +kernel
theorem dX10_manyOf_20 : decode cX10_manyOf 20 = .ok (.iconst 1, 1) := by decide +kernel
theorem dX10_manyOf_21 : decode cX10_manyOf 21 = .ok (.goto 4, 3) := by decide +kernel
theorem dX10_manyOf_24 : decode cX10_manyOf 24 = .ok (.iconst 0, 1) := by decide +kernel
theorem dX10_manyOf_25 : decode cX10_manyOf 25 = .ok (.iadd, 1) := by decide +kernel
theorem dX10_manyOf_26 : decode cX10_manyOf 26 = .ok (.istore_n 2, 1) := by decide +kernel
theorem dX10_manyOf_27 : decode cX10_manyOf 27 = .ok (.iinc 3 1, 3) := by decide +kernel
theorem dX10_manyOf_30 : decode cX10_manyOf 30 = .ok (.goto (-26), 3) := by decide +kernel
theorem dX10_manyOf_33 : decode cX10_manyOf 33 = .ok (.iload_n 2, 1) := by decide +kernel
theorem dX10_manyOf_34 : decode cX10_manyOf 34 = .ok (.ireturn, 1) := by decide +kernel
set_option maxRecDepth 20000 in
theorem ggX10_many_X10_isMark : GoodIn wsX10_many wsX10_isMark := goodIn_r _ [5, 6, 7, 8, 9, 4, 10, 29, 30, 31, 32, 33, 34, 35, 36, 37, 38, 39, 40, 41, 42, 43, 44, 45, 46, 47, 48, 49, 50, 51, 52, 53, 54, 55, 56, 57, 58, 59, 60, 61] (by decide +kernel) (by decide +kernel)
set_option maxRecDepth 20000 in
theorem gX10_many_X10_isMark : GoodIn wsX10_many (wsV RX10 116 RX10 yX10_isMark wsX10_isMark) := goodIn_app (goodIn_of _ (by decide +kernel)) ggX10_many_X10_isMark
set_option maxRecDepth 20000 in
theorem ggX10_many_X10_manyOf : GoodIn wsX10_many wsX10_manyOf := goodIn_r _ [14, 15, 16, 17, 4, 18, 19, 20, 21, 22, 23, 24, 25, 26, 27, 28, 29, 30, 31, 32, 33, 34, 35, 36, 37, 38, 39, 40, 41, 42, 43, 44, 45, 46, 47, 48, 49, 50, 51, 52, 53, 54, 55, 56, 57, 58, 59, 60, 61] (by decide +kernel) (by decide +kernel)
set_option maxRecDepth 20000 in
theorem gX10_many_X10_manyOf : GoodIn wsX10_many (wsV RX10 152 RX10 yX10_manyOf wsX10_manyOf) := goodIn_app (goodIn_of _ (by decide +kernel)) ggX10_many_X10_manyOf
theorem dX10_many_0 : decode cX10_many 0 = .ok (.aload_n 0, 1) := by decide +kernel
theorem dX10_many_1 : decode cX10_many 1 = .ok (.iload_n 1, 1) := by decide +kernel
theorem dX10_many_2 : decode cX10_many 2 = .ok (.invokevirtual 116, 3) := by decide +kernel
theorem dX10_many_5 : decode cX10_many 5 = .ok (.ifCond .eq 11, 3) := by decide +kernel
theorem dX10_many_8 : decode cX10_many 8 = .ok (.aload_n 0, 1) := by decide +kernel
theorem dX10_many_9 : decode cX10_many 9 = .ok (.iload_n 1, 1) := by decide +kernel
theorem dX10_many_10 : decode cX10_many 10 = .ok (.invokevirtual 152, 3) := by decide +kernel
theorem dX10_many_13 : decode cX10_many 13 = .ok (.goto 4, 3) := by decide +kernel
theorem dX10_many_16 : decode cX10_many 16 = .ok (.iconst (-1), 1) := by decide +kernel
theorem dX10_many_17 : decode cX10_many 17 = .ok (.ireturn, 1) := by decide +kernel
theorem dX10_divisor_0 : decode cX10_divisor 0 = .ok (.lload_n 1, 1) := by decide +kernel
theorem dX10_divisor_1 : decode cX10_divisor 1 = .ok (.lconst 0, 1) := by decide +kernel
theorem dX10_divisor_2 : decode cX10_divisor 2 = .ok (.lcmp, 1) := by decide +kernel
theorem dX10_divisor_3 : decode cX10_divisor 3 = .ok (.ifCond .ge 8, 3) := by decide +kernel
theorem dX10_divisor_6 : decode cX10_divisor 6 = .ok (.lload_n 1, 1) := by decide +kernel
theorem dX10_divisor_7 : decode cX10_divisor 7 = .ok (.lneg, 1) := by decide +kernel
theorem dX10_divisor_8 : decode cX10_divisor 8 = .ok (.goto 4, 3) := by decide +kernel
theorem dX10_divisor_11 : decode cX10_divisor 11 = .ok (.lload_n 1, 1) := by decide +kernel
theorem dX10_divisor_12 : decode cX10_divisor 12 = .ok (.lstore 5, 2) := by decide +kernel
theorem dX10_divisor_14 : decode cX10_divisor 14 = .ok (.lload_n 3, 1) := by decide +kernel
theorem dX10_divisor_15 : decode cX10_divisor 15 = .ok (.lconst 0, 1) := by decide +kernel
theorem dX10_divisor_16 : decode cX10_divisor 16 = .ok (.lcmp, 1) := by decide +kernel
theorem dX10_divisor_17 : decode cX10_divisor 17 = .ok (.ifCond .ge 8, 3) := by decide +kernel
theorem dX10_divisor_20 : decode cX10_divisor 20 = .ok (.lload_n 3, 1) := by decide +kernel
theorem dX10_divisor_21 : decode cX10_divisor 21 = .ok (.lneg, 1) := by decide +kernel
theorem dX10_divisor_22 : decode cX10_divisor 22 = .ok (.goto 4, 3) := by decide +kernel
theorem dX10_divisor_25 : decode cX10_divisor 25 = .ok (.lload_n 3, 1) := by decide +kernel
theorem dX10_divisor_26 : decode cX10_divisor 26 = .ok (.lstore 7, 2) := by decide +kernel
theorem dX10_divisor_28 : decode cX10_divisor 28 = .ok (.lload 7, 2) := by decide +kernel
theorem dX10_divisor_30 : decode cX10_divisor 30 = .ok (.lconst 0, 1) := by decide +kernel
theorem dX10_divisor_31 : decode cX10_divisor 31 = .ok (.lcmp, 1) := by decide +kernel
theorem dX10_divisor_32 : decode cX10_divisor 32 = .ok (.ifCond .eq 21, 3) := by decide +kernel
theorem dX10_divisor_35 : decode cX10_divisor 35 = .ok (.lload 5, 2) := by decide +kernel
theorem dX10_divisor_37 : decode cX10_divisor 37 = .ok (.lload 7, 2) := by decide +kernel
theorem dX10_divisor_39 : decode cX10_divisor 39 = .ok (.lrem, 1) := by decide +kernel
theorem dX10_divisor_40 : decode cX10_divisor 40 = .ok (.lstore 9, 2) := by decide +kernel
theorem dX10_divisor_42 : decode cX10_divisor 42 = .ok (.lload 7, 2) := by decide +kernel
theorem dX10_divisor_44 : decode cX10_divisor 44 = .ok (.lstore 5, 2) := by decide +kernel
theorem dX10_divisor_46 : decode cX10_divisor 46 = .ok (.lload 9, 2) := by decide +kernel
theorem dX10_divisor_48 : decode cX10_divisor 48 = .ok (.lstore 7, 2) := by decide +kernel
theorem dX10_divisor_50 : decode cX10_divisor 50 = .ok (.goto (-22), 3) := by decide +kernel
theorem dX10_divisor_53 : decode cX10_divisor 53 = .ok (.lload 5, 2) := by decide +kernel
theorem dX10_divisor_55 : decode cX10_divisor 55 = .ok (.lreturn, 1) := by decide +kernel
set_option maxRecDepth 20000 in
theorem ggX10_lowest_X10_divisor : GoodIn wsX10_lowest wsX10_divisor := goodIn_r _ [5] (by decide +kernel) (by decide +kernel)
set_option maxRecDepth 20000 in
theorem gX10_lowest_X10_divisor : GoodIn wsX10_lowest (wsV RX10 156 RX10 yX10_divisor wsX10_divisor) := goodIn_app (goodIn_of _ (by decide +kernel)) ggX10_lowest_X10_divisor
theorem dX10_lowest_0 : decode cX10_lowest 0 = .ok (.aload_n 0, 1) := by decide +kernel
theorem dX10_lowest_1 : decode cX10_lowest 1 = .ok (.lload_n 1, 1) := by decide +kernel
theorem dX10_lowest_2 : decode cX10_lowest 2 = .ok (.lload_n 3, 1) := by decide +kernel
theorem dX10_lowest_3 : decode cX10_lowest 3 = .ok (.invokevirtual 156, 3) := by decide +kernel
theorem dX10_lowest_6 : decode cX10_lowest 6 = .ok (.lstore 6, 2) := by decide +kernel
theorem dX10_lowest_8 : decode cX10_lowest 8 = .ok (.lload_n 3, 1) := by decide +kernel
theorem dX10_lowest_9 : decode cX10_lowest 9 = .ok (.lconst 0, 1) := by decide +kernel
theorem dX10_lowest_10 : decode cX10_lowest 10 = .ok (.lcmp, 1) := by decide +kernel
theorem dX10_lowest_11 : decode cX10_lowest 11 = .ok (.ifCond .ge 8, 3) := by decide +kernel
theorem dX10_lowest_14 : decode cX10_lowest 14 = .ok (.lload 6, 2) := by decide +kernel
theorem dX10_lowest_16 : decode cX10_lowest 16 = .ok (.lneg, 1) := by decide +kernel
theorem dX10_lowest_17 : decode cX10_lowest 17 = .ok (.lstore 6, 2) := by decide +kernel
theorem dX10_lowest_19 : decode cX10_lowest 19 = .ok (.iload 5, 2) := by decide +kernel
theorem dX10_lowest_21 : decode cX10_lowest 21 = .ok (.ifCond .eq 10, 3) := by decide +kernel
theorem dX10_lowest_24 : decode cX10_lowest 24 = .ok (.lload_n 3, 1) := by decide +kernel
theorem dX10_lowest_25 : decode cX10_lowest 25 = .ok (.lload 6, 2) := by decide +kernel
theorem dX10_lowest_27 : decode cX10_lowest 27 = .ok (.ldiv, 1) := by decide +kernel
theorem dX10_lowest_28 : decode cX10_lowest 28 = .ok (.goto 7, 3) := by decide +kernel
theorem dX10_lowest_31 : decode cX10_lowest 31 = .ok (.lload_n 1, 1) := by decide +kernel
theorem dX10_lowest_32 : decode cX10_lowest 32 = .ok (.lload 6, 2) := by decide +kernel
theorem dX10_lowest_34 : decode cX10_lowest 34 = .ok (.ldiv, 1) := by decide +kernel
theorem dX10_lowest_35 : decode cX10_lowest 35 = .ok (.lreturn, 1) := by decide +kernel
set_option maxRecDepth 20000 in
theorem ggX10_rate_X10_isMark : GoodIn wsX10_rate wsX10_isMark := goodIn_r _ [6, 7, 8, 9, 10, 5, 11, 64, 65, 66, 67, 68, 69, 70, 71, 72, 73, 74, 75, 76, 77, 78, 79, 80, 81, 82, 83, 84, 85, 86, 87, 88, 89, 90, 91, 92, 93, 94, 95, 96] (by decide +kernel) (by decide +kernel)
set_option maxRecDepth 20000 in
theorem gX10_rate_X10_isMark : GoodIn wsX10_rate (wsV RX10 116 RX10 yX10_isMark wsX10_isMark) := goodIn_app (goodIn_of _ (by decide +kernel)) ggX10_rate_X10_isMark
set_option maxRecDepth 20000 in
theorem ggX10_rate_X10_isSide : GoodIn wsX10_rate wsX10_isSide := goodIn_r _ [15] (by decide +kernel) (by decide +kernel)
set_option maxRecDepth 20000 in
theorem gX10_rate_X10_isSide : GoodIn wsX10_rate (wsV RX10 143 RX10 yX10_isSide wsX10_isSide) := goodIn_app (goodIn_of _ (by decide +kernel)) ggX10_rate_X10_isSide
set_option maxRecDepth 20000 in
theorem ggX10_rate_X10_manyOf : GoodIn wsX10_rate wsX10_manyOf := goodIn_r _ [19, 20, 21, 22, 5, 23, 24, 25, 26, 27, 28, 29, 30, 31, 32, 33, 64, 65, 66, 67, 68, 69, 70, 71, 72, 73, 74, 75, 76, 77, 78, 79, 80, 81, 82, 83, 84, 85, 86, 87, 88, 89, 90, 91, 92, 93, 94, 95, 96] (by decide +kernel) (by decide +kernel)
set_option maxRecDepth 20000 in
theorem gX10_rate_X10_manyOf : GoodIn wsX10_rate (wsV RX10 152 RX10 yX10_manyOf wsX10_manyOf) := goodIn_app (goodIn_of _ (by decide +kernel)) ggX10_rate_X10_manyOf
set_option maxRecDepth 20000 in
theorem ggX10_rate_X10_isCleared : GoodIn wsX10_rate wsX10_isCleared := goodIn_r _ [23, 24, 25, 26, 27, 5, 28, 29, 30, 31, 32, 33, 64, 65, 66, 67, 68, 69, 70, 71, 72, 73, 74, 75, 76, 77, 78, 79, 80, 81, 82, 83, 84, 85, 86, 87, 88, 89, 90, 91, 92, 93, 94, 95, 96] (by decide +kernel) (by decide +kernel)
set_option maxRecDepth 20000 in
theorem gX10_rate_X10_isCleared : GoodIn wsX10_rate (wsV RX10 146 RX10 yX10_isCleared wsX10_isCleared) := goodIn_app (goodIn_of _ (by decide +kernel)) ggX10_rate_X10_isCleared
set_option maxRecDepth 20000 in
theorem ggX10_rate_X10_clear : GoodIn wsX10_rate wsX10_clear := goodIn_r _ [37, 38, 39, 33, 40, 41, 42, 5, 43, 44, 45, 46, 47, 25, 26, 27, 28, 48, 49, 50, 51, 52, 53, 54, 55, 24, 64, 65, 66, 67, 68, 69, 70, 71, 72, 73, 74, 75, 76, 77, 78, 79, 80, 81, 82, 83, 84, 85, 86, 87, 88, 89, 90, 91, 92, 93, 94, 95, 96] (by decide +kernel) (by decide +kernel)
set_option maxRecDepth 20000 in
theorem gX10_rate_X10_clear : GoodIn wsX10_rate (wsV RX10 149 RX10 yX10_clear wsX10_clear) := goodIn_app (goodIn_of _ (by decide +kernel)) ggX10_rate_X10_clear
set_option maxRecDepth 20000 in
theorem ggX10_rate_X10_lowest : GoodIn wsX10_rate wsX10_lowest := goodIn_r _ [59, 60, 61, 62, 5, 63] (by decide +kernel) (by decide +kernel)
set_option maxRecDepth 20000 in
theorem gX10_rate_X10_lowest : GoodIn wsX10_rate (wsV RX10 160 RX10 yX10_lowest wsX10_lowest) := goodIn_app (goodIn_of _ (by decide +kernel)) ggX10_rate_X10_lowest
theorem dX10_rate_0 : decode cX10_rate 0 = .ok (.aload_n 0, 1) := by decide +kernel
theorem dX10_rate_1 : decode cX10_rate 1 = .ok (.aload_n 0, 1) := by decide +kernel
theorem dX10_rate_2 : decode cX10_rate 2 = .ok (.iload_n 1, 1) := by decide +kernel
theorem dX10_rate_3 : decode cX10_rate 3 = .ok (.invokevirtual 116, 3) := by decide +kernel
theorem dX10_rate_6 : decode cX10_rate 6 = .ok (.ifCond .eq 11, 3) := by decide +kernel
theorem dX10_rate_9 : decode cX10_rate 9 = .ok (.aload_n 0, 1) := by decide +kernel
theorem dX10_rate_10 : decode cX10_rate 10 = .ok (.iload_n 2, 1) := by decide +kernel
theorem dX10_rate_11 : decode cX10_rate 11 = .ok (.invokevirtual 143, 3) := by decide +kernel
theorem dX10_rate_14 : decode cX10_rate 14 = .ok (.ifCond .ne 7, 3) := by decide +kernel
theorem dX10_rate_17 : decode cX10_rate 17 = .ok (.iconst 1, 1) := by decide +kernel
theorem dX10_rate_18 : decode cX10_rate 18 = .ok (.goto 17, 3) := by decide +kernel
theorem dX10_rate_21 : decode cX10_rate 21 = .ok (.aload_n 0, 1) := by decide +kernel
theorem dX10_rate_22 : decode cX10_rate 22 = .ok (.iload_n 1, 1) := by decide +kernel
theorem dX10_rate_23 : decode cX10_rate 23 = .ok (.invokevirtual 152, 3) := by decide +kernel
theorem dX10_rate_26 : decode cX10_rate 26 = .ok (.iconst 2, 1) := by decide +kernel
theorem dX10_rate_27 : decode cX10_rate 27 = .ok (.if_icmp .ge 7, 3) := by decide +kernel
theorem dX10_rate_30 : decode cX10_rate 30 = .ok (.iconst 2, 1) := by decide +kernel
theorem dX10_rate_31 : decode cX10_rate 31 = .ok (.goto 4, 3) := by decide +kernel
theorem dX10_rate_34 : decode cX10_rate 34 = .ok (.iconst 0, 1) := by decide +kernel
theorem dX10_rate_35 : decode cX10_rate 35 = .ok (.putfield 7, 3) := by decide +kernel
theorem dX10_rate_38 : decode cX10_rate 38 = .ok (.aload_n 0, 1) := by decide +kernel
theorem dX10_rate_39 : decode cX10_rate 39 = .ok (.getfield 7, 3) := by decide +kernel
theorem dX10_rate_42 : decode cX10_rate 42 = .ok (.ifCond .le 5, 3) := by decide +kernel
theorem dX10_rate_45 : decode cX10_rate 45 = .ok (.lconst 0, 1) := by decide +kernel
theorem dX10_rate_46 : decode cX10_rate 46 = .ok (.lreturn, 1) := by decide +kernel
theorem dX10_rate_47 : decode cX10_rate 47 = .ok (.lconst 0, 1) := by decide +kernel
theorem dX10_rate_48 : decode cX10_rate 48 = .ok (.lstore 4, 2) := by decide +kernel
theorem dX10_rate_50 : decode cX10_rate 50 = .ok (.lconst 0, 1) := by decide +kernel
theorem dX10_rate_51 : decode cX10_rate 51 = .ok (.lstore 6, 2) := by decide +kernel
theorem dX10_rate_53 : decode cX10_rate 53 = .ok (.lconst 0, 1) := by decide +kernel
theorem dX10_rate_54 : decode cX10_rate 54 = .ok (.lstore 8, 2) := by decide +kernel
theorem dX10_rate_56 : decode cX10_rate 56 = .ok (.lconst 0, 1) := by decide +kernel
theorem dX10_rate_57 : decode cX10_rate 57 = .ok (.lstore 10, 2) := by decide +kernel
theorem dX10_rate_59 : decode cX10_rate 59 = .ok (.lconst 0, 1) := by decide +kernel
theorem dX10_rate_60 : decode cX10_rate 60 = .ok (.lstore 12, 2) := by decide +kernel
theorem dX10_rate_62 : decode cX10_rate 62 = .ok (.iconst 0, 1) := by decide +kernel
theorem dX10_rate_63 : decode cX10_rate 63 = .ok (.istore 14, 2) := by decide +kernel
theorem dX10_rate_65 : decode cX10_rate 65 = .ok (.iload 14, 2) := by decide +kernel
theorem dX10_rate_67 : decode cX10_rate 67 = .ok (.bipush 40, 2) := by decide +kernel
theorem dX10_rate_69 : decode cX10_rate 69 = .ok (.if_icmp .ge 76, 3) := by decide +kernel
theorem dX10_rate_72 : decode cX10_rate 72 = .ok (.aload_n 0, 1) := by decide +kernel
theorem dX10_rate_73 : decode cX10_rate 73 = .ok (.iload_n 1, 1) := by decide +kernel
theorem dX10_rate_74 : decode cX10_rate 74 = .ok (.iload 14, 2) := by decide +kernel
theorem dX10_rate_76 : decode cX10_rate 76 = .ok (.invokevirtual 146, 3) := by decide +kernel
theorem dX10_rate_79 : decode cX10_rate 79 = .ok (.ifCond .ne 6, 3) := by decide +kernel
theorem dX10_rate_82 : decode cX10_rate 82 = .ok (.goto 57, 3) := by decide +kernel
theorem dX10_rate_85 : decode cX10_rate 85 = .ok (.aload_n 0, 1) := by decide +kernel
theorem dX10_rate_86 : decode cX10_rate 86 = .ok (.iload_n 1, 1) := by decide +kernel
theorem dX10_rate_87 : decode cX10_rate 87 = .ok (.iload 14, 2) := by decide +kernel
theorem dX10_rate_89 : decode cX10_rate 89 = .ok (.iload_n 2, 1) := by decide +kernel
theorem dX10_rate_90 : decode cX10_rate 90 = .ok (.invokevirtual 149, 3) := by decide +kernel
theorem dX10_rate_93 : decode cX10_rate 93 = .ok (.lstore 15, 2) := by decide +kernel
theorem dX10_rate_95 : decode cX10_rate 95 = .ok (.lload 4, 2) := by decide +kernel
theorem dX10_rate_97 : decode cX10_rate 97 = .ok (.lconst 1, 1) := by decide +kernel
theorem dX10_rate_98 : decode cX10_rate 98 = .ok (.ladd, 1) := by decide +kernel
theorem dX10_rate_99 : decode cX10_rate 99 = .ok (.lstore 4, 2) := by decide +kernel
theorem dX10_rate_101 : decode cX10_rate 101 = .ok (.lload 6, 2) := by decide +kernel
theorem dX10_rate_103 : decode cX10_rate 103 = .ok (.iload 14, 2) := by decide +kernel
theorem dX10_rate_105 : decode cX10_rate 105 = .ok (.i2l, 1) := by decide +kernel
theorem dX10_rate_106 : decode cX10_rate 106 = .ok (.ladd, 1) := by decide +kernel
theorem dX10_rate_107 : decode cX10_rate 107 = .ok (.lstore 6, 2) := by decide +kernel
theorem dX10_rate_109 : decode cX10_rate 109 = .ok (.lload 8, 2) := by decide +kernel
theorem dX10_rate_111 : decode cX10_rate 111 = .ok (.lload 15, 2) := by decide +kernel
theorem dX10_rate_113 : decode cX10_rate 113 = .ok (.ladd, 1) := by decide +kernel
theorem dX10_rate_114 : decode cX10_rate 114 = .ok (.lstore 8, 2) := by decide +kernel
theorem dX10_rate_116 : decode cX10_rate 116 = .ok (.lload 10, 2) := by decide +kernel
theorem dX10_rate_118 : decode cX10_rate 118 = .ok (.iload 14, 2) := by decide +kernel
theorem dX10_rate_120 : decode cX10_rate 120 = .ok (.i2l, 1) := by decide +kernel
theorem dX10_rate_121 : decode cX10_rate 121 = .ok (.iload 14, 2) := by decide +kernel
theorem dX10_rate_123 : decode cX10_rate 123 = .ok (.i2l, 1) := by decide +kernel
theorem dX10_rate_124 : decode cX10_rate 124 = .ok (.lmul, 1) := by decide +kernel
theorem dX10_rate_125 : decode cX10_rate 125 = .ok (.ladd, 1) := by decide +kernel
theorem dX10_rate_126 : decode cX10_rate 126 = .ok (.lstore 10, 2) := by decide +kernel
theorem dX10_rate_128 : decode cX10_rate 128 = .ok (.lload 12, 2) := by decide +kernel
theorem dX10_rate_130 : decode cX10_rate 130 = .ok (.iload 14, 2) := by decide +kernel
theorem dX10_rate_132 : decode cX10_rate 132 = .ok (.i2l, 1) := by decide +kernel
theorem dX10_rate_133 : decode cX10_rate 133 = .ok (.lload 15, 2) := by decide +kernel
theorem dX10_rate_135 : decode cX10_rate 135 = .ok (.lmul, 1) := by decide +kernel
theorem dX10_rate_136 : decode cX10_rate 136 = .ok (.ladd, 1) := by decide +kernel
theorem dX10_rate_137 : decode cX10_rate 137 = .ok (.lstore 12, 2) := by decide +kernel
theorem dX10_rate_139 : decode cX10_rate 139 = .ok (.iinc 14 1, 3) := by decide +kernel
theorem dX10_rate_142 : decode cX10_rate 142 = .ok (.goto (-77), 3) := by decide +kernel
theorem dX10_rate_145 : decode cX10_rate 145 = .ok (.aload_n 0, 1) := by decide +kernel
theorem dX10_rate_146 : decode cX10_rate 146 = .ok (.lload 4, 2) := by decide +kernel
theorem dX10_rate_148 : decode cX10_rate 148 = .ok (.lload 12, 2) := by decide +kernel
theorem dX10_rate_150 : decode cX10_rate 150 = .ok (.lmul, 1) := by decide +kernel
theorem dX10_rate_151 : decode cX10_rate 151 = .ok (.lload 6, 2) := by decide +kernel
theorem dX10_rate_153 : decode cX10_rate 153 = .ok (.lload 8, 2) := by decide +kernel
theorem dX10_rate_155 : decode cX10_rate 155 = .ok (.lmul, 1) := by decide +kernel
theorem dX10_rate_156 : decode cX10_rate 156 = .ok (.lsub, 1) := by decide +kernel
theorem dX10_rate_157 : decode cX10_rate 157 = .ok (.lload 4, 2) := by decide +kernel
theorem dX10_rate_159 : decode cX10_rate 159 = .ok (.lload 10, 2) := by decide +kernel
theorem dX10_rate_161 : decode cX10_rate 161 = .ok (.lmul, 1) := by decide +kernel
theorem dX10_rate_162 : decode cX10_rate 162 = .ok (.lload 6, 2) := by decide +kernel
theorem dX10_rate_164 : decode cX10_rate 164 = .ok (.lload 6, 2) := by decide +kernel
theorem dX10_rate_166 : decode cX10_rate 166 = .ok (.lmul, 1) := by decide +kernel
theorem dX10_rate_167 : decode cX10_rate 167 = .ok (.lsub, 1) := by decide +kernel
theorem dX10_rate_168 : decode cX10_rate 168 = .ok (.iload_n 3, 1) := by decide +kernel
theorem dX10_rate_169 : decode cX10_rate 169 = .ok (.invokevirtual 160, 3) := by decide +kernel
theorem dX10_rate_172 : decode cX10_rate 172 = .ok (.lreturn, 1) := by decide +kernel
set_option maxRecDepth 20000 in
theorem ggX10_jump_X10_isMark : GoodIn wsX10_jump wsX10_isMark := goodIn_r _ [5, 6, 7, 8, 9, 4, 10, 55, 56, 57, 58, 59, 60, 61, 62, 63, 64, 65, 66, 67, 68, 69, 70, 71, 72, 73, 74, 75, 76, 77, 78, 79, 80, 81, 82, 83, 84, 85, 86, 87] (by decide +kernel) (by decide +kernel)
set_option maxRecDepth 20000 in
theorem gX10_jump_X10_isMark : GoodIn wsX10_jump (wsV RX10 116 RX10 yX10_isMark wsX10_isMark) := goodIn_app (goodIn_of _ (by decide +kernel)) ggX10_jump_X10_isMark
set_option maxRecDepth 20000 in
theorem ggX10_jump_X10_isSide : GoodIn wsX10_jump wsX10_isSide := goodIn_r _ [14] (by decide +kernel) (by decide +kernel)
set_option maxRecDepth 20000 in
theorem gX10_jump_X10_isSide : GoodIn wsX10_jump (wsV RX10 143 RX10 yX10_isSide wsX10_isSide) := goodIn_app (goodIn_of _ (by decide +kernel)) ggX10_jump_X10_isSide
set_option maxRecDepth 20000 in
theorem ggX10_jump_X10_manyOf : GoodIn wsX10_jump wsX10_manyOf := goodIn_r _ [18, 19, 20, 21, 4, 22, 23, 24, 25, 26, 27, 28, 29, 30, 31, 32, 55, 56, 57, 58, 59, 60, 61, 62, 63, 64, 65, 66, 67, 68, 69, 70, 71, 72, 73, 74, 75, 76, 77, 78, 79, 80, 81, 82, 83, 84, 85, 86, 87] (by decide +kernel) (by decide +kernel)
set_option maxRecDepth 20000 in
theorem gX10_jump_X10_manyOf : GoodIn wsX10_jump (wsV RX10 152 RX10 yX10_manyOf wsX10_manyOf) := goodIn_app (goodIn_of _ (by decide +kernel)) ggX10_jump_X10_manyOf
set_option maxRecDepth 20000 in
theorem ggX10_jump_X10_isCleared : GoodIn wsX10_jump wsX10_isCleared := goodIn_r _ [22, 23, 24, 25, 26, 4, 27, 28, 29, 30, 31, 32, 55, 56, 57, 58, 59, 60, 61, 62, 63, 64, 65, 66, 67, 68, 69, 70, 71, 72, 73, 74, 75, 76, 77, 78, 79, 80, 81, 82, 83, 84, 85, 86, 87] (by decide +kernel) (by decide +kernel)
set_option maxRecDepth 20000 in
theorem gX10_jump_X10_isCleared : GoodIn wsX10_jump (wsV RX10 146 RX10 yX10_isCleared wsX10_isCleared) := goodIn_app (goodIn_of _ (by decide +kernel)) ggX10_jump_X10_isCleared
set_option maxRecDepth 20000 in
theorem ggX10_jump_X10_clear : GoodIn wsX10_jump wsX10_clear := goodIn_r _ [36, 37, 38, 32, 39, 40, 41, 4, 42, 43, 44, 45, 46, 24, 25, 26, 27, 47, 48, 49, 50, 51, 52, 53, 54, 23, 55, 56, 57, 58, 59, 60, 61, 62, 63, 64, 65, 66, 67, 68, 69, 70, 71, 72, 73, 74, 75, 76, 77, 78, 79, 80, 81, 82, 83, 84, 85, 86, 87] (by decide +kernel) (by decide +kernel)
set_option maxRecDepth 20000 in
theorem gX10_jump_X10_clear : GoodIn wsX10_jump (wsV RX10 149 RX10 yX10_clear wsX10_clear) := goodIn_app (goodIn_of _ (by decide +kernel)) ggX10_jump_X10_clear
theorem dX10_jump_0 : decode cX10_jump 0 = .ok (.aload_n 0, 1) := by decide +kernel
theorem dX10_jump_1 : decode cX10_jump 1 = .ok (.iload_n 1, 1) := by decide +kernel
theorem dX10_jump_2 : decode cX10_jump 2 = .ok (.invokevirtual 116, 3) := by decide +kernel
theorem dX10_jump_5 : decode cX10_jump 5 = .ok (.ifCond .eq 11, 3) := by decide +kernel
theorem dX10_jump_8 : decode cX10_jump 8 = .ok (.aload_n 0, 1) := by decide +kernel
theorem dX10_jump_9 : decode cX10_jump 9 = .ok (.iload_n 2, 1) := by decide +kernel
theorem dX10_jump_10 : decode cX10_jump 10 = .ok (.invokevirtual 143, 3) := by decide +kernel
theorem dX10_jump_13 : decode cX10_jump 13 = .ok (.ifCond .ne 5, 3) := by decide +kernel
theorem dX10_jump_16 : decode cX10_jump 16 = .ok (.iconst (-1), 1) := by decide +kernel
theorem dX10_jump_17 : decode cX10_jump 17 = .ok (.ireturn, 1) := by decide +kernel
theorem dX10_jump_18 : decode cX10_jump 18 = .ok (.aload_n 0, 1) := by decide +kernel
theorem dX10_jump_19 : decode cX10_jump 19 = .ok (.iload_n 1, 1) := by decide +kernel
theorem dX10_jump_20 : decode cX10_jump 20 = .ok (.invokevirtual 152, 3) := by decide +kernel
theorem dX10_jump_23 : decode cX10_jump 23 = .ok (.istore_n 3, 1) := by decide +kernel
theorem dX10_jump_24 : decode cX10_jump 24 = .ok (.lconst 0, 1) := by decide +kernel
theorem dX10_jump_25 : decode cX10_jump 25 = .ok (.lstore 4, 2) := by decide +kernel
theorem dX10_jump_27 : decode cX10_jump 27 = .ok (.iconst 0, 1) := by decide +kernel
theorem dX10_jump_28 : decode cX10_jump 28 = .ok (.istore 6, 2) := by decide +kernel
theorem dX10_jump_30 : decode cX10_jump 30 = .ok (.iload 6, 2) := by decide +kernel
theorem dX10_jump_32 : decode cX10_jump 32 = .ok (.bipush 40, 2) := by decide +kernel
theorem dX10_jump_34 : decode cX10_jump 34 = .ok (.if_icmp .ge 36, 3) := by decide +kernel
theorem dX10_jump_37 : decode cX10_jump 37 = .ok (.lload 4, 2) := by decide +kernel
theorem dX10_jump_39 : decode cX10_jump 39 = .ok (.aload_n 0, 1) := by decide +kernel
theorem dX10_jump_40 : decode cX10_jump 40 = .ok (.iload_n 1, 1) := by decide +kernel
theorem dX10_jump_41 : decode cX10_jump 41 = .ok (.iload 6, 2) := by decide +kernel
theorem dX10_jump_43 : decode cX10_jump 43 = .ok (.invokevirtual 146, 3) := by decide +kernel
theorem dX10_jump_46 : decode cX10_jump 46 = .ok (.ifCond .eq 14, 3) := by decide +kernel
theorem dX10_jump_49 : decode cX10_jump 49 = .ok (.aload_n 0, 1) := by decide +kernel
theorem dX10_jump_50 : decode cX10_jump 50 = .ok (.iload_n 1, 1) := by decide +kernel
theorem dX10_jump_51 : decode cX10_jump 51 = .ok (.iload 6, 2) := by decide +kernel
theorem dX10_jump_53 : decode cX10_jump 53 = .ok (.iload_n 2, 1) := by decide +kernel
theorem dX10_jump_54 : decode cX10_jump 54 = .ok (.invokevirtual 149, 3) := by decide +kernel
theorem dX10_jump_57 : decode cX10_jump 57 = .ok (.goto 4, 3) := by decide +kernel
theorem dX10_jump_60 : decode cX10_jump 60 = .ok (.lconst 0, 1) := by decide +kernel
theorem dX10_jump_61 : decode cX10_jump 61 = .ok (.ladd, 1) := by decide +kernel
theorem dX10_jump_62 : decode cX10_jump 62 = .ok (.lstore 4, 2) := by decide +kernel
theorem dX10_jump_64 : decode cX10_jump 64 = .ok (.iinc 6 1, 3) := by decide +kernel
theorem dX10_jump_67 : decode cX10_jump 67 = .ok (.goto (-37), 3) := by decide +kernel
theorem dX10_jump_70 : decode cX10_jump 70 = .ok (.bipush (-4), 2) := by decide +kernel
theorem dX10_jump_72 : decode cX10_jump 72 = .ok (.istore 6, 2) := by decide +kernel
theorem dX10_jump_74 : decode cX10_jump 74 = .ok (.lconst 0, 1) := by decide +kernel
theorem dX10_jump_75 : decode cX10_jump 75 = .ok (.lstore 7, 2) := by decide +kernel
theorem dX10_jump_77 : decode cX10_jump 77 = .ok (.lconst 1, 1) := by decide +kernel
theorem dX10_jump_78 : decode cX10_jump 78 = .ok (.lstore 9, 2) := by decide +kernel
theorem dX10_jump_80 : decode cX10_jump 80 = .ok (.lconst 0, 1) := by decide +kernel
theorem dX10_jump_81 : decode cX10_jump 81 = .ok (.lstore 11, 2) := by decide +kernel
theorem dX10_jump_83 : decode cX10_jump 83 = .ok (.iconst 0, 1) := by decide +kernel
theorem dX10_jump_84 : decode cX10_jump 84 = .ok (.istore 13, 2) := by decide +kernel
theorem dX10_jump_86 : decode cX10_jump 86 = .ok (.iconst 0, 1) := by decide +kernel
theorem dX10_jump_87 : decode cX10_jump 87 = .ok (.istore 14, 2) := by decide +kernel
theorem dX10_jump_89 : decode cX10_jump 89 = .ok (.iload 14, 2) := by decide +kernel
theorem dX10_jump_91 : decode cX10_jump 91 = .ok (.bipush 40, 2) := by decide +kernel
theorem dX10_jump_93 : decode cX10_jump 93 = .ok (.if_icmp .ge 131, 3) := by decide +kernel
theorem dX10_jump_96 : decode cX10_jump 96 = .ok (.aload_n 0, 1) := by decide +kernel
theorem dX10_jump_97 : decode cX10_jump 97 = .ok (.iload_n 1, 1) := by decide +kernel
theorem dX10_jump_98 : decode cX10_jump 98 = .ok (.iload 14, 2) := by decide +kernel
theorem dX10_jump_100 : decode cX10_jump 100 = .ok (.invokevirtual 146, 3) := by decide +kernel
theorem dX10_jump_103 : decode cX10_jump 103 = .ok (.ifCond .ne 6, 3) := by decide +kernel
theorem dX10_jump_106 : decode cX10_jump 106 = .ok (.goto 112, 3) := by decide +kernel
theorem dX10_jump_109 : decode cX10_jump 109 = .ok (.iload 13, 2) := by decide +kernel
theorem dX10_jump_111 : decode cX10_jump 111 = .ok (.iconst 2, 1) := by decide +kernel
theorem dX10_jump_112 : decode cX10_jump 112 = .ok (.if_icmp .lt 90, 3) := by decide +kernel
theorem dX10_jump_115 : decode cX10_jump 115 = .ok (.iload_n 3, 1) := by decide +kernel
theorem dX10_jump_116 : decode cX10_jump 116 = .ok (.iload 13, 2) := by decide +kernel
theorem dX10_jump_118 : decode cX10_jump 118 = .ok (.isub, 1) := by decide +kernel
theorem dX10_jump_119 : decode cX10_jump 119 = .ok (.iconst 2, 1) := by decide +kernel
theorem dX10_jump_120 : decode cX10_jump 120 = .ok (.if_icmp .lt 82, 3) := by decide +kernel
theorem dX10_jump_123 : decode cX10_jump 123 = .ok (.lload 11, 2) := by decide +kernel
theorem dX10_jump_125 : decode cX10_jump 125 = .ok (.iload_n 3, 1) := by decide +kernel
theorem dX10_jump_126 : decode cX10_jump 126 = .ok (.iload 13, 2) := by decide +kernel
theorem dX10_jump_128 : decode cX10_jump 128 = .ok (.isub, 1) := by decide +kernel
theorem dX10_jump_129 : decode cX10_jump 129 = .ok (.i2l, 1) := by decide +kernel
theorem dX10_jump_130 : decode cX10_jump 130 = .ok (.lmul, 1) := by decide +kernel
theorem dX10_jump_131 : decode cX10_jump 131 = .ok (.lload 4, 2) := by decide +kernel
theorem dX10_jump_133 : decode cX10_jump 133 = .ok (.lload 11, 2) := by decide +kernel
theorem dX10_jump_135 : decode cX10_jump 135 = .ok (.lsub, 1) := by decide +kernel
theorem dX10_jump_136 : decode cX10_jump 136 = .ok (.iload 13, 2) := by decide +kernel
theorem dX10_jump_138 : decode cX10_jump 138 = .ok (.i2l, 1) := by decide +kernel
theorem dX10_jump_139 : decode cX10_jump 139 = .ok (.lmul, 1) := by decide +kernel
theorem dX10_jump_140 : decode cX10_jump 140 = .ok (.lsub, 1) := by decide +kernel
theorem dX10_jump_141 : decode cX10_jump 141 = .ok (.lstore 15, 2) := by decide +kernel
theorem dX10_jump_143 : decode cX10_jump 143 = .ok (.lload 15, 2) := by decide +kernel
theorem dX10_jump_145 : decode cX10_jump 145 = .ok (.lconst 0, 1) := by decide +kernel
theorem dX10_jump_146 : decode cX10_jump 146 = .ok (.lcmp, 1) := by decide +kernel
theorem dX10_jump_147 : decode cX10_jump 147 = .ok (.ifCond .ge 9, 3) := by decide +kernel
theorem dX10_jump_150 : decode cX10_jump 150 = .ok (.lload 15, 2) := by decide +kernel
theorem dX10_jump_152 : decode cX10_jump 152 = .ok (.lneg, 1) := by decide +kernel
theorem dX10_jump_153 : decode cX10_jump 153 = .ok (.goto 5, 3) := by decide +kernel
theorem dX10_jump_156 : decode cX10_jump 156 = .ok (.lload 15, 2) := by decide +kernel
theorem dX10_jump_158 : decode cX10_jump 158 = .ok (.lstore 15, 2) := by decide +kernel
theorem dX10_jump_160 : decode cX10_jump 160 = .ok (.iload 13, 2) := by decide +kernel
theorem dX10_jump_162 : decode cX10_jump 162 = .ok (.i2l, 1) := by decide +kernel
theorem dX10_jump_163 : decode cX10_jump 163 = .ok (.iload_n 3, 1) := by decide +kernel
theorem dX10_jump_164 : decode cX10_jump 164 = .ok (.iload 13, 2) := by decide +kernel
theorem dX10_jump_166 : decode cX10_jump 166 = .ok (.isub, 1) := by decide +kernel
theorem dX10_jump_167 : decode cX10_jump 167 = .ok (.i2l, 1) := by decide +kernel
theorem dX10_jump_168 : decode cX10_jump 168 = .ok (.lmul, 1) := by decide +kernel
theorem dX10_jump_169 : decode cX10_jump 169 = .ok (.lstore 17, 2) := by decide +kernel
theorem dX10_jump_171 : decode cX10_jump 171 = .ok (.iload 6, 2) := by decide +kernel
theorem dX10_jump_173 : decode cX10_jump 173 = .ok (.ifCond .lt 17, 3) := by decide +kernel
theorem dX10_jump_176 : decode cX10_jump 176 = .ok (.lload 15, 2) := by decide +kernel
theorem dX10_jump_178 : decode cX10_jump 178 = .ok (.lload 9, 2) := by decide +kernel
theorem dX10_jump_180 : decode cX10_jump 180 = .ok (.lmul, 1) := by decide +kernel
theorem dX10_jump_181 : decode cX10_jump 181 = .ok (.lload 7, 2) := by decide +kernel
theorem dX10_jump_183 : decode cX10_jump 183 = .ok (.lload 17, 2) := by decide +kernel
theorem dX10_jump_185 : decode cX10_jump 185 = .ok (.lmul, 1) := by decide +kernel
theorem dX10_jump_186 : decode cX10_jump 186 = .ok (.lcmp, 1) := by decide +kernel
theorem dX10_jump_187 : decode cX10_jump 187 = .ok (.ifCond .le 15, 3) := by decide +kernel
theorem dX10_jump_190 : decode cX10_jump 190 = .ok (.iload 14, 2) := by decide +kernel
theorem dX10_jump_192 : decode cX10_jump 192 = .ok (.istore 6, 2) := by decide +kernel
theorem dX10_jump_194 : decode cX10_jump 194 = .ok (.lload 15, 2) := by decide +kernel
theorem dX10_jump_196 : decode cX10_jump 196 = .ok (.lstore 7, 2) := by decide +kernel
theorem dX10_jump_198 : decode cX10_jump 198 = .ok (.lload 17, 2) := by decide +kernel
theorem dX10_jump_200 : decode cX10_jump 200 = .ok (.lstore 9, 2) := by decide +kernel
theorem dX10_jump_202 : decode cX10_jump 202 = .ok (.lload 11, 2) := by decide +kernel
theorem dX10_jump_204 : decode cX10_jump 204 = .ok (.aload_n 0, 1) := by decide +kernel
theorem dX10_jump_205 : decode cX10_jump 205 = .ok (.iload_n 1, 1) := by decide +kernel
theorem dX10_jump_206 : decode cX10_jump 206 = .ok (.iload 14, 2) := by decide +kernel
theorem dX10_jump_208 : decode cX10_jump 208 = .ok (.iload_n 2, 1) := by decide +kernel
theorem dX10_jump_209 : decode cX10_jump 209 = .ok (.invokevirtual 149, 3) := by decide +kernel
theorem dX10_jump_212 : decode cX10_jump 212 = .ok (.ladd, 1) := by decide +kernel
theorem dX10_jump_213 : decode cX10_jump 213 = .ok (.lstore 11, 2) := by decide +kernel
theorem dX10_jump_215 : decode cX10_jump 215 = .ok (.iinc 13 1, 3) := by decide +kernel
theorem dX10_jump_218 : decode cX10_jump 218 = .ok (.iinc 14 1, 3) := by decide +kernel
theorem dX10_jump_221 : decode cX10_jump 221 = .ok (.goto (-132), 3) := by decide +kernel
theorem dX10_jump_224 : decode cX10_jump 224 = .ok (.iload 6, 2) := by decide +kernel
theorem dX10_jump_226 : decode cX10_jump 226 = .ok (.ireturn, 1) := by decide +kernel
set_option maxRecDepth 20000 in
theorem ggX10_firstOf_X10_isCleared : GoodIn wsX10_firstOf wsX10_isCleared := goodIn_r _ [5, 6, 7, 8, 9, 4, 10, 11, 12, 13, 14, 15, 38, 39, 40, 41, 42, 43, 44, 45, 46, 47, 48, 49, 50, 51, 52, 53, 54, 55, 56, 57, 58, 59, 60, 61, 62, 63, 64, 65, 66, 67, 68, 69, 70] (by decide +kernel) (by decide +kernel)
set_option maxRecDepth 20000 in
theorem gX10_firstOf_X10_isCleared : GoodIn wsX10_firstOf (wsV RX10 146 RX10 yX10_isCleared wsX10_isCleared) := goodIn_app (goodIn_of _ (by decide +kernel)) ggX10_firstOf_X10_isCleared
set_option maxRecDepth 20000 in
theorem ggX10_firstOf_X10_clear : GoodIn wsX10_firstOf wsX10_clear := goodIn_r _ [19, 20, 21, 15, 22, 23, 24, 4, 25, 26, 27, 28, 29, 7, 8, 9, 10, 30, 31, 32, 33, 34, 35, 36, 37, 6, 38, 39, 40, 41, 42, 43, 44, 45, 46, 47, 48, 49, 50, 51, 52, 53, 54, 55, 56, 57, 58, 59, 60, 61, 62, 63, 64, 65, 66, 67, 68, 69, 70] (by decide +kernel) (by decide +kernel)
set_option maxRecDepth 20000 in
theorem gX10_firstOf_X10_clear : GoodIn wsX10_firstOf (wsV RX10 149 RX10 yX10_clear wsX10_clear) := goodIn_app (goodIn_of _ (by decide +kernel)) ggX10_firstOf_X10_clear
theorem dX10_firstOf_0 : decode cX10_firstOf 0 = .ok (.iconst 0, 1) := by decide +kernel
theorem dX10_firstOf_1 : decode cX10_firstOf 1 = .ok (.istore_n 3, 1) := by decide +kernel
theorem dX10_firstOf_2 : decode cX10_firstOf 2 = .ok (.aload_n 0, 1) := by decide +kernel
theorem dX10_firstOf_3 : decode cX10_firstOf 3 = .ok (.iload_n 1, 1) := by decide +kernel
theorem dX10_firstOf_4 : decode cX10_firstOf 4 = .ok (.iload_n 3, 1) := by decide +kernel
theorem dX10_firstOf_5 : decode cX10_firstOf 5 = .ok (.invokevirtual 146, 3) := by decide +kernel
theorem dX10_firstOf_8 : decode cX10_firstOf 8 = .ok (.ifCond .ne 9, 3) := by decide +kernel
theorem dX10_firstOf_11 : decode cX10_firstOf 11 = .ok (.iinc 3 1, 3) := by decide +kernel
theorem dX10_firstOf_14 : decode cX10_firstOf 14 = .ok (.goto (-12), 3) := by decide +kernel
theorem dX10_firstOf_17 : decode cX10_firstOf 17 = .ok (.aload_n 0, 1) := by decide +kernel
theorem dX10_firstOf_18 : decode cX10_firstOf 18 = .ok (.iload_n 1, 1) := by decide +kernel
theorem dX10_firstOf_19 : decode cX10_firstOf 19 = .ok (.iload_n 3, 1) := by decide +kernel
theorem dX10_firstOf_20 : decode cX10_firstOf 20 = .ok (.iload_n 2, 1) := by decide +kernel
theorem dX10_firstOf_21 : decode cX10_firstOf 21 = .ok (.invokevirtual 149, 3) := by decide +kernel
theorem dX10_firstOf_24 : decode cX10_firstOf 24 = .ok (.lreturn, 1) := by decide +kernel
set_option maxRecDepth 20000 in
theorem ggX10_common_X10_isEpoch : GoodIn wsX10_common wsX10_isEpoch := goodIn_r _ [7, 8, 9, 10, 6, 11] (by decide +kernel) (by decide +kernel)
set_option maxRecDepth 20000 in
theorem gX10_common_X10_isEpoch : GoodIn wsX10_common (wsV RX10 120 RX10 yX10_isEpoch wsX10_isEpoch) := goodIn_app (goodIn_of _ (by decide +kernel)) ggX10_common_X10_isEpoch
set_option maxRecDepth 20000 in
theorem ggX10_common_X10_isSide : GoodIn wsX10_common wsX10_isSide := goodIn_r _ [15] (by decide +kernel) (by decide +kernel)
set_option maxRecDepth 20000 in
theorem gX10_common_X10_isSide : GoodIn wsX10_common (wsV RX10 143 RX10 yX10_isSide wsX10_isSide) := goodIn_app (goodIn_of _ (by decide +kernel)) ggX10_common_X10_isSide
set_option maxRecDepth 20000 in
theorem ggX10_common_X10_isCleared : GoodIn wsX10_common wsX10_isCleared := goodIn_r _ [19, 20, 21, 22, 23, 6, 24, 25, 26, 27, 28, 29, 56, 57, 58, 59, 60, 61, 62, 63, 64, 65, 66, 67, 68, 69, 70, 71, 72, 73, 74, 75, 76, 77, 78, 79, 80, 81, 82, 83, 84, 85, 86, 87, 88] (by decide +kernel) (by decide +kernel)
set_option maxRecDepth 20000 in
theorem gX10_common_X10_isCleared : GoodIn wsX10_common (wsV RX10 146 RX10 yX10_isCleared wsX10_isCleared) := goodIn_app (goodIn_of _ (by decide +kernel)) ggX10_common_X10_isCleared
set_option maxRecDepth 20000 in
theorem ggX10_common_X10_clear : GoodIn wsX10_common wsX10_clear := goodIn_r _ [33, 34, 35, 29, 36, 37, 38, 6, 39, 40, 41, 42, 43, 21, 22, 23, 24, 44, 45, 46, 47, 48, 49, 50, 51, 20, 56, 57, 58, 59, 60, 61, 62, 63, 64, 65, 66, 67, 68, 69, 70, 71, 72, 73, 74, 75, 76, 77, 78, 79, 80, 81, 82, 83, 84, 85, 86, 87, 88] (by decide +kernel) (by decide +kernel)
set_option maxRecDepth 20000 in
theorem gX10_common_X10_clear : GoodIn wsX10_common (wsV RX10 149 RX10 yX10_clear wsX10_clear) := goodIn_app (goodIn_of _ (by decide +kernel)) ggX10_common_X10_clear
set_option maxRecDepth 20000 in
theorem ggX10_common_X10_firstOf : GoodIn wsX10_common wsX10_firstOf := goodIn_r _ [55, 16, 17, 18, 6, 19, 20, 21, 22, 23, 24, 25, 26, 27, 28, 29, 30, 31, 32, 33, 34, 35, 36, 37, 38, 39, 40, 41, 42, 43, 44, 45, 46, 47, 48, 49, 50, 51, 56, 57, 58, 59, 60, 61, 62, 63, 64, 65, 66, 67, 68, 69, 70, 71, 72, 73, 74, 75, 76, 77, 78, 79, 80, 81, 82, 83, 84, 85, 86, 87, 88] (by decide +kernel) (by decide +kernel)
set_option maxRecDepth 20000 in
theorem gX10_common_X10_firstOf : GoodIn wsX10_common (wsV RX10 164 RX10 yX10_firstOf wsX10_firstOf) := goodIn_app (goodIn_of _ (by decide +kernel)) ggX10_common_X10_firstOf
theorem dX10_common_0 : decode cX10_common 0 = .ok (.iconst 0, 1) := by decide +kernel
theorem dX10_common_1 : decode cX10_common 1 = .ok (.istore_n 3, 1) := by decide +kernel
theorem dX10_common_2 : decode cX10_common 2 = .ok (.lconst 0, 1) := by decide +kernel
theorem dX10_common_3 : decode cX10_common 3 = .ok (.lstore 4, 2) := by decide +kernel
theorem dX10_common_5 : decode cX10_common 5 = .ok (.iconst 0, 1) := by decide +kernel
theorem dX10_common_6 : decode cX10_common 6 = .ok (.istore 6, 2) := by decide +kernel
theorem dX10_common_8 : decode cX10_common 8 = .ok (.iload 6, 2) := by decide +kernel
theorem dX10_common_10 : decode cX10_common 10 = .ok (.aload_n 0, 1) := by decide +kernel
theorem dX10_common_11 : decode cX10_common 11 = .ok (.getfield 13, 3) := by decide +kernel
theorem dX10_common_14 : decode cX10_common 14 = .ok (.if_icmp .ge 62, 3) := by decide +kernel
theorem dX10_common_17 : decode cX10_common 17 = .ok (.aload_n 0, 1) := by decide +kernel
theorem dX10_common_18 : decode cX10_common 18 = .ok (.iload_n 1, 1) := by decide +kernel
theorem dX10_common_19 : decode cX10_common 19 = .ok (.invokevirtual 120, 3) := by decide +kernel
theorem dX10_common_22 : decode cX10_common 22 = .ok (.ifCond .eq 54, 3) := by decide +kernel
theorem dX10_common_25 : decode cX10_common 25 = .ok (.aload_n 0, 1) := by decide +kernel
theorem dX10_common_26 : decode cX10_common 26 = .ok (.iload_n 2, 1) := by decide +kernel
theorem dX10_common_27 : decode cX10_common 27 = .ok (.invokevirtual 143, 3) := by decide +kernel
theorem dX10_common_30 : decode cX10_common 30 = .ok (.ifCond .eq 46, 3) := by decide +kernel
theorem dX10_common_33 : decode cX10_common 33 = .ok (.aload_n 0, 1) := by decide +kernel
theorem dX10_common_34 : decode cX10_common 34 = .ok (.iload 6, 2) := by decide +kernel
theorem dX10_common_36 : decode cX10_common 36 = .ok (.iload_n 1, 1) := by decide +kernel
theorem dX10_common_37 : decode cX10_common 37 = .ok (.invokevirtual 146, 3) := by decide +kernel
theorem dX10_common_40 : decode cX10_common 40 = .ok (.ifCond .ne 6, 3) := by decide +kernel
theorem dX10_common_43 : decode cX10_common 43 = .ok (.goto 27, 3) := by decide +kernel
theorem dX10_common_46 : decode cX10_common 46 = .ok (.lload 4, 2) := by decide +kernel
theorem dX10_common_48 : decode cX10_common 48 = .ok (.aload_n 0, 1) := by decide +kernel
theorem dX10_common_49 : decode cX10_common 49 = .ok (.iload 6, 2) := by decide +kernel
theorem dX10_common_51 : decode cX10_common 51 = .ok (.iload_n 1, 1) := by decide +kernel
theorem dX10_common_52 : decode cX10_common 52 = .ok (.iload_n 2, 1) := by decide +kernel
theorem dX10_common_53 : decode cX10_common 53 = .ok (.invokevirtual 149, 3) := by decide +kernel
theorem dX10_common_56 : decode cX10_common 56 = .ok (.aload_n 0, 1) := by decide +kernel
theorem dX10_common_57 : decode cX10_common 57 = .ok (.iload 6, 2) := by decide +kernel
theorem dX10_common_59 : decode cX10_common 59 = .ok (.iload_n 2, 1) := by decide +kernel
theorem dX10_common_60 : decode cX10_common 60 = .ok (.invokevirtual 164, 3) := by decide +kernel
theorem dX10_common_63 : decode cX10_common 63 = .ok (.lsub, 1) := by decide +kernel
theorem dX10_common_64 : decode cX10_common 64 = .ok (.ladd, 1) := by decide +kernel
theorem dX10_common_65 : decode cX10_common 65 = .ok (.lstore 4, 2) := by decide +kernel
theorem dX10_common_67 : decode cX10_common 67 = .ok (.iinc 3 1, 3) := by decide +kernel
theorem dX10_common_70 : decode cX10_common 70 = .ok (.iinc 6 1, 3) := by decide +kernel
theorem dX10_common_73 : decode cX10_common 73 = .ok (.goto (-65), 3) := by decide +kernel
theorem dX10_common_76 : decode cX10_common 76 = .ok (.aload_n 0, 1) := by decide +kernel
theorem dX10_common_77 : decode cX10_common 77 = .ok (.aload_n 0, 1) := by decide +kernel
theorem dX10_common_78 : decode cX10_common 78 = .ok (.iload_n 1, 1) := by decide +kernel
theorem dX10_common_79 : decode cX10_common 79 = .ok (.invokevirtual 120, 3) := by decide +kernel
theorem dX10_common_82 : decode cX10_common 82 = .ok (.ifCond .eq 11, 3) := by decide +kernel
theorem dX10_common_85 : decode cX10_common 85 = .ok (.aload_n 0, 1) := by decide +kernel
theorem dX10_common_86 : decode cX10_common 86 = .ok (.iload_n 2, 1) := by decide +kernel
theorem dX10_common_87 : decode cX10_common 87 = .ok (.invokevirtual 143, 3) := by decide +kernel
theorem dX10_common_90 : decode cX10_common 90 = .ok (.ifCond .ne 7, 3) := by decide +kernel
theorem dX10_common_93 : decode cX10_common 93 = .ok (.iconst 1, 1) := by decide +kernel
theorem dX10_common_94 : decode cX10_common 94 = .ok (.goto 12, 3) := by decide +kernel
theorem dX10_common_97 : decode cX10_common 97 = .ok (.iload_n 3, 1) := by decide +kernel
theorem dX10_common_98 : decode cX10_common 98 = .ok (.ifCond .ne 7, 3) := by decide +kernel
theorem dX10_common_101 : decode cX10_common 101 = .ok (.iconst 2, 1) := by decide +kernel
theorem dX10_common_102 : decode cX10_common 102 = .ok (.goto 4, 3) := by decide +kernel
theorem dX10_common_105 : decode cX10_common 105 = .ok (.iconst 0, 1) := by decide +kernel
theorem dX10_common_106 : decode cX10_common 106 = .ok (.putfield 7, 3) := by decide +kernel
theorem dX10_common_109 : decode cX10_common 109 = .ok (.aload_n 0, 1) := by decide +kernel
theorem dX10_common_110 : decode cX10_common 110 = .ok (.getfield 7, 3) := by decide +kernel
theorem dX10_common_113 : decode cX10_common 113 = .ok (.ifCond .le 7, 3) := by decide +kernel
theorem dX10_common_116 : decode cX10_common 116 = .ok (.lconst 0, 1) := by decide +kernel
theorem dX10_common_117 : decode cX10_common 117 = .ok (.goto 8, 3) := by decide +kernel
theorem dX10_common_120 : decode cX10_common 120 = .ok (.lload 4, 2) := by decide +kernel
theorem dX10_common_122 : decode cX10_common 122 = .ok (.iload_n 3, 1) := by decide +kernel
theorem dX10_common_123 : decode cX10_common 123 = .ok (.i2l, 1) := by decide +kernel
theorem dX10_common_124 : decode cX10_common 124 = .ok (.ldiv, 1) := by decide +kernel
theorem dX10_common_125 : decode cX10_common 125 = .ok (.lreturn, 1) := by decide +kernel
set_option maxRecDepth 20000 in
theorem ggX10_velocity_X10_isMark : GoodIn wsX10_velocity wsX10_isMark := goodIn_r _ [7, 8, 9, 10, 11, 6, 12, 13, 14, 15, 16, 17, 18, 19, 20, 21, 22, 23, 24, 25, 26, 27, 28, 29, 30, 31, 32, 33, 34, 35, 36, 37, 38, 39, 40, 41, 42, 43, 44, 45] (by decide +kernel) (by decide +kernel)
set_option maxRecDepth 20000 in
theorem gX10_velocity_X10_isMark : GoodIn wsX10_velocity (wsV RX10 116 RX10 yX10_isMark wsX10_isMark) := goodIn_app (goodIn_of _ (by decide +kernel)) ggX10_velocity_X10_isMark
set_option maxRecDepth 20000 in
theorem ggX10_velocity_X10_in : GoodIn wsX10_velocity wsX10_in := goodIn_r _ [12] (by decide +kernel) (by decide +kernel)
set_option maxRecDepth 20000 in
theorem gX10_velocity_X10_in : GoodIn wsX10_velocity (wsV RX10 112 RX10 yX10_in wsX10_in) := goodIn_app (goodIn_of _ (by decide +kernel)) ggX10_velocity_X10_in
theorem dX10_velocity_0 : decode cX10_velocity 0 = .ok (.aload_n 0, 1) := by decide +kernel
theorem dX10_velocity_1 : decode cX10_velocity 1 = .ok (.iload_n 1, 1) := by decide +kernel
theorem dX10_velocity_2 : decode cX10_velocity 2 = .ok (.invokevirtual 116, 3) := by decide +kernel
theorem dX10_velocity_5 : decode cX10_velocity 5 = .ok (.ifCond .eq 31, 3) := by decide +kernel
theorem dX10_velocity_8 : decode cX10_velocity 8 = .ok (.aload_n 0, 1) := by decide +kernel
theorem dX10_velocity_9 : decode cX10_velocity 9 = .ok (.iload_n 2, 1) := by decide +kernel
theorem dX10_velocity_10 : decode cX10_velocity 10 = .ok (.sipush (-1000), 3) := by decide +kernel
theorem dX10_velocity_13 : decode cX10_velocity 13 = .ok (.sipush 1000, 3) := by decide +kernel
theorem dX10_velocity_16 : decode cX10_velocity 16 = .ok (.invokevirtual 112, 3) := by decide +kernel
theorem dX10_velocity_19 : decode cX10_velocity 19 = .ok (.ifCond .eq 17, 3) := by decide +kernel
theorem dX10_velocity_22 : decode cX10_velocity 22 = .ok (.aload_n 0, 1) := by decide +kernel
theorem dX10_velocity_23 : decode cX10_velocity 23 = .ok (.iload_n 3, 1) := by decide +kernel
theorem dX10_velocity_24 : decode cX10_velocity 24 = .ok (.sipush (-1000), 3) := by decide +kernel
theorem dX10_velocity_27 : decode cX10_velocity 27 = .ok (.sipush 1000, 3) := by decide +kernel
theorem dX10_velocity_30 : decode cX10_velocity 30 = .ok (.invokevirtual 112, 3) := by decide +kernel
theorem dX10_velocity_33 : decode cX10_velocity 33 = .ok (.ifCond .ne 5, 3) := by decide +kernel
theorem dX10_velocity_36 : decode cX10_velocity 36 = .ok (.iconst (-1), 1) := by decide +kernel
theorem dX10_velocity_37 : decode cX10_velocity 37 = .ok (.ireturn, 1) := by decide +kernel
theorem dX10_velocity_38 : decode cX10_velocity 38 = .ok (.aload_n 0, 1) := by decide +kernel
theorem dX10_velocity_39 : decode cX10_velocity 39 = .ok (.getfield 48, 3) := by decide +kernel
theorem dX10_velocity_42 : decode cX10_velocity 42 = .ok (.iload_n 1, 1) := by decide +kernel
theorem dX10_velocity_43 : decode cX10_velocity 43 = .ok (.iaload, 1) := by decide +kernel
theorem dX10_velocity_44 : decode cX10_velocity 44 = .ok (.iload_n 2, 1) := by decide +kernel
theorem dX10_velocity_45 : decode cX10_velocity 45 = .ok (.if_icmp .ne 17, 3) := by decide +kernel
theorem dX10_velocity_48 : decode cX10_velocity 48 = .ok (.aload_n 0, 1) := by decide +kernel
theorem dX10_velocity_49 : decode cX10_velocity 49 = .ok (.getfield 51, 3) := by decide +kernel
theorem dX10_velocity_52 : decode cX10_velocity 52 = .ok (.iload_n 1, 1) := by decide +kernel
theorem dX10_velocity_53 : decode cX10_velocity 53 = .ok (.iaload, 1) := by decide +kernel
theorem dX10_velocity_54 : decode cX10_velocity 54 = .ok (.iload_n 3, 1) := by decide +kernel
theorem dX10_velocity_55 : decode cX10_velocity 55 = .ok (.if_icmp .ne 7, 3) := by decide +kernel
theorem dX10_velocity_58 : decode cX10_velocity 58 = .ok (.iconst 0, 1) := by decide +kernel
theorem dX10_velocity_59 : decode cX10_velocity 59 = .ok (.goto 4, 3) := by decide +kernel
theorem dX10_velocity_62 : decode cX10_velocity 62 = .ok (.iconst 1, 1) := by decide +kernel
theorem dX10_velocity_63 : decode cX10_velocity 63 = .ok (.istore 4, 2) := by decide +kernel
theorem dX10_velocity_65 : decode cX10_velocity 65 = .ok (.aload_n 0, 1) := by decide +kernel
theorem dX10_velocity_66 : decode cX10_velocity 66 = .ok (.getfield 48, 3) := by decide +kernel
theorem dX10_velocity_69 : decode cX10_velocity 69 = .ok (.iload_n 1, 1) := by decide +kernel
theorem dX10_velocity_70 : decode cX10_velocity 70 = .ok (.iload_n 2, 1) := by decide +kernel
theorem dX10_velocity_71 : decode cX10_velocity 71 = .ok (.iastore, 1) := by decide +kernel
theorem dX10_velocity_72 : decode cX10_velocity 72 = .ok (.aload_n 0, 1) := by decide +kernel
theorem dX10_velocity_73 : decode cX10_velocity 73 = .ok (.getfield 51, 3) := by decide +kernel
theorem dX10_velocity_76 : decode cX10_velocity 76 = .ok (.iload_n 1, 1) := by decide +kernel
theorem dX10_velocity_77 : decode cX10_velocity 77 = .ok (.iload_n 3, 1) := by decide +kernel
theorem dX10_velocity_78 : decode cX10_velocity 78 = .ok (.iastore, 1) := by decide +kernel
theorem dX10_velocity_79 : decode cX10_velocity 79 = .ok (.iload 4, 2) := by decide +kernel
theorem dX10_velocity_81 : decode cX10_velocity 81 = .ok (.ireturn, 1) := by decide +kernel
set_option maxRecDepth 20000 in
theorem ggX10_moves_X10_isMark : GoodIn wsX10_moves wsX10_isMark := goodIn_r _ [8, 9, 10, 11, 12, 7, 13, 18, 19, 20, 21, 22, 23, 24, 25, 26, 27, 28, 29, 30, 31, 32, 33, 34, 35, 36, 37, 38, 39, 40, 41, 42, 43, 44, 45, 46, 47, 48, 49, 50] (by decide +kernel) (by decide +kernel)
set_option maxRecDepth 20000 in
theorem gX10_moves_X10_isMark : GoodIn wsX10_moves (wsV RX10 116 RX10 yX10_isMark wsX10_isMark) := goodIn_app (goodIn_of _ (by decide +kernel)) ggX10_moves_X10_isMark
set_option maxRecDepth 20000 in
theorem ggX10_moves_X10_isSide : GoodIn wsX10_moves wsX10_isSide := goodIn_r _ [17] (by decide +kernel) (by decide +kernel)
set_option maxRecDepth 20000 in
theorem gX10_moves_X10_isSide : GoodIn wsX10_moves (wsV RX10 143 RX10 yX10_isSide wsX10_isSide) := goodIn_app (goodIn_of _ (by decide +kernel)) ggX10_moves_X10_isSide
theorem dX10_moves_0 : decode cX10_moves 0 = .ok (.aload_n 0, 1) := by decide +kernel
theorem dX10_moves_1 : decode cX10_moves 1 = .ok (.aload_n 0, 1) := by decide +kernel
theorem dX10_moves_2 : decode cX10_moves 2 = .ok (.iload_n 1, 1) := by decide +kernel
theorem dX10_moves_3 : decode cX10_moves 3 = .ok (.invokevirtual 116, 3) := by decide +kernel
theorem dX10_moves_6 : decode cX10_moves 6 = .ok (.ifCond .eq 15, 3) := by decide +kernel
theorem dX10_moves_9 : decode cX10_moves 9 = .ok (.aload_n 0, 1) := by decide +kernel
theorem dX10_moves_10 : decode cX10_moves 10 = .ok (.iload_n 2, 1) := by decide +kernel
theorem dX10_moves_11 : decode cX10_moves 11 = .ok (.invokevirtual 143, 3) := by decide +kernel
theorem dX10_moves_14 : decode cX10_moves 14 = .ok (.ifCond .eq 7, 3) := by decide +kernel
theorem dX10_moves_17 : decode cX10_moves 17 = .ok (.iconst 0, 1) := by decide +kernel
theorem dX10_moves_18 : decode cX10_moves 18 = .ok (.goto 4, 3) := by decide +kernel
theorem dX10_moves_21 : decode cX10_moves 21 = .ok (.iconst 1, 1) := by decide +kernel
theorem dX10_moves_22 : decode cX10_moves 22 = .ok (.putfield 7, 3) := by decide +kernel
theorem dX10_moves_25 : decode cX10_moves 25 = .ok (.aload_n 0, 1) := by decide +kernel
theorem dX10_moves_26 : decode cX10_moves 26 = .ok (.getfield 7, 3) := by decide +kernel
theorem dX10_moves_29 : decode cX10_moves 29 = .ok (.ifCond .le 7, 3) := by decide +kernel
theorem dX10_moves_32 : decode cX10_moves 32 = .ok (.lconst 0, 1) := by decide +kernel
theorem dX10_moves_33 : decode cX10_moves 33 = .ok (.goto 24, 3) := by decide +kernel
theorem dX10_moves_36 : decode cX10_moves 36 = .ok (.iload_n 2, 1) := by decide +kernel
theorem dX10_moves_37 : decode cX10_moves 37 = .ok (.ifCond .ne 13, 3) := by decide +kernel
theorem dX10_moves_40 : decode cX10_moves 40 = .ok (.aload_n 0, 1) := by decide +kernel
theorem dX10_moves_41 : decode cX10_moves 41 = .ok (.getfield 48, 3) := by decide +kernel
theorem dX10_moves_44 : decode cX10_moves 44 = .ok (.iload_n 1, 1) := by decide +kernel
theorem dX10_moves_45 : decode cX10_moves 45 = .ok (.iaload, 1) := by decide +kernel
theorem dX10_moves_46 : decode cX10_moves 46 = .ok (.i2l, 1) := by decide +kernel
theorem dX10_moves_47 : decode cX10_moves 47 = .ok (.goto 10, 3) := by decide +kernel
theorem dX10_moves_50 : decode cX10_moves 50 = .ok (.aload_n 0, 1) := by decide +kernel
theorem dX10_moves_51 : decode cX10_moves 51 = .ok (.getfield 51, 3) := by decide +kernel
theorem dX10_moves_54 : decode cX10_moves 54 = .ok (.iload_n 1, 1) := by decide +kernel
theorem dX10_moves_55 : decode cX10_moves 55 = .ok (.iaload, 1) := by decide +kernel
theorem dX10_moves_56 : decode cX10_moves 56 = .ok (.i2l, 1) := by decide +kernel
theorem dX10_moves_57 : decode cX10_moves 57 = .ok (.lreturn, 1) := by decide +kernel
set_option maxRecDepth 20000 in
theorem ggX10_frame_X10_in : GoodIn wsX10_frame wsX10_in := goodIn_r _ [12] (by decide +kernel) (by decide +kernel)
set_option maxRecDepth 20000 in
theorem gX10_frame_X10_in : GoodIn wsX10_frame (wsV RX10 112 RX10 yX10_in wsX10_in) := goodIn_app (goodIn_of _ (by decide +kernel)) ggX10_frame_X10_in
theorem dX10_frame_0 : decode cX10_frame 0 = .ok (.aload_n 0, 1) := by decide +kernel
theorem dX10_frame_1 : decode cX10_frame 1 = .ok (.iload_n 1, 1) := by decide +kernel
theorem dX10_frame_2 : decode cX10_frame 2 = .ok (.sipush (-1000), 3) := by decide +kernel
theorem dX10_frame_5 : decode cX10_frame 5 = .ok (.sipush 1000, 3) := by decide +kernel
theorem dX10_frame_8 : decode cX10_frame 8 = .ok (.invokevirtual 112, 3) := by decide +kernel
theorem dX10_frame_11 : decode cX10_frame 11 = .ok (.ifCond .eq 29, 3) := by decide +kernel
theorem dX10_frame_14 : decode cX10_frame 14 = .ok (.aload_n 0, 1) := by decide +kernel
theorem dX10_frame_15 : decode cX10_frame 15 = .ok (.iload_n 2, 1) := by decide +kernel
theorem dX10_frame_16 : decode cX10_frame 16 = .ok (.sipush (-1000), 3) := by decide +kernel
theorem dX10_frame_19 : decode cX10_frame 19 = .ok (.sipush 1000, 3) := by decide +kernel
theorem dX10_frame_22 : decode cX10_frame 22 = .ok (.invokevirtual 112, 3) := by decide +kernel
theorem dX10_frame_25 : decode cX10_frame 25 = .ok (.ifCond .eq 15, 3) := by decide +kernel
theorem dX10_frame_28 : decode cX10_frame 28 = .ok (.aload_n 0, 1) := by decide +kernel
theorem dX10_frame_29 : decode cX10_frame 29 = .ok (.iload_n 3, 1) := by decide +kernel
theorem dX10_frame_30 : decode cX10_frame 30 = .ok (.bipush (-9), 2) := by decide +kernel
theorem dX10_frame_32 : decode cX10_frame 32 = .ok (.bipush 9, 2) := by decide +kernel
theorem dX10_frame_34 : decode cX10_frame 34 = .ok (.invokevirtual 112, 3) := by decide +kernel
theorem dX10_frame_37 : decode cX10_frame 37 = .ok (.ifCond .ne 5, 3) := by decide +kernel
theorem dX10_frame_40 : decode cX10_frame 40 = .ok (.iconst (-1), 1) := by decide +kernel
theorem dX10_frame_41 : decode cX10_frame 41 = .ok (.ireturn, 1) := by decide +kernel
theorem dX10_frame_42 : decode cX10_frame 42 = .ok (.iconst 0, 1) := by decide +kernel
theorem dX10_frame_43 : decode cX10_frame 43 = .ok (.istore 4, 2) := by decide +kernel
theorem dX10_frame_45 : decode cX10_frame 45 = .ok (.iload 4, 2) := by decide +kernel
theorem dX10_frame_47 : decode cX10_frame 47 = .ok (.aload_n 0, 1) := by decide +kernel
theorem dX10_frame_48 : decode cX10_frame 48 = .ok (.getfield 13, 3) := by decide +kernel
theorem dX10_frame_51 : decode cX10_frame 51 = .ok (.if_icmp .ge 72, 3) := by decide +kernel
theorem dX10_frame_54 : decode cX10_frame 54 = .ok (.aload_n 0, 1) := by decide +kernel
theorem dX10_frame_55 : decode cX10_frame 55 = .ok (.aload_n 0, 1) := by decide +kernel
theorem dX10_frame_56 : decode cX10_frame 56 = .ok (.getfield 48, 3) := by decide +kernel
theorem dX10_frame_59 : decode cX10_frame 59 = .ok (.iload 4, 2) := by decide +kernel
theorem dX10_frame_61 : decode cX10_frame 61 = .ok (.iaload, 1) := by decide +kernel
theorem dX10_frame_62 : decode cX10_frame 62 = .ok (.iload_n 1, 1) := by decide +kernel
theorem dX10_frame_63 : decode cX10_frame 63 = .ok (.iload_n 3, 1) := by decide +kernel
theorem dX10_frame_64 : decode cX10_frame 64 = .ok (.aload_n 0, 1) := by decide +kernel
theorem dX10_frame_65 : decode cX10_frame 65 = .ok (.getfield 23, 3) := by decide +kernel
theorem dX10_frame_68 : decode cX10_frame 68 = .ok (.iload 4, 2) := by decide +kernel
theorem dX10_frame_70 : decode cX10_frame 70 = .ok (.iaload, 1) := by decide +kernel
theorem dX10_frame_71 : decode cX10_frame 71 = .ok (.imul, 1) := by decide +kernel
theorem dX10_frame_72 : decode cX10_frame 72 = .ok (.isub, 1) := by decide +kernel
theorem dX10_frame_73 : decode cX10_frame 73 = .ok (.isub, 1) := by decide +kernel
theorem dX10_frame_74 : decode cX10_frame 74 = .ok (.ldc 126, 2) := by decide +kernel
theorem dX10_frame_76 : decode cX10_frame 76 = .ok (.ldc 127, 2) := by decide +kernel
theorem dX10_frame_78 : decode cX10_frame 78 = .ok (.invokevirtual 112, 3) := by decide +kernel
theorem dX10_frame_81 : decode cX10_frame 81 = .ok (.ifCond .eq 33, 3) := by decide +kernel
theorem dX10_frame_84 : decode cX10_frame 84 = .ok (.aload_n 0, 1) := by decide +kernel
theorem dX10_frame_85 : decode cX10_frame 85 = .ok (.aload_n 0, 1) := by decide +kernel
theorem dX10_frame_86 : decode cX10_frame 86 = .ok (.getfield 51, 3) := by decide +kernel
theorem dX10_frame_89 : decode cX10_frame 89 = .ok (.iload 4, 2) := by decide +kernel
theorem dX10_frame_91 : decode cX10_frame 91 = .ok (.iaload, 1) := by decide +kernel
theorem dX10_frame_92 : decode cX10_frame 92 = .ok (.iload_n 2, 1) := by decide +kernel
theorem dX10_frame_93 : decode cX10_frame 93 = .ok (.iload_n 3, 1) := by decide +kernel
theorem dX10_frame_94 : decode cX10_frame 94 = .ok (.aload_n 0, 1) := by decide +kernel
theorem dX10_frame_95 : decode cX10_frame 95 = .ok (.getfield 20, 3) := by decide +kernel
theorem dX10_frame_98 : decode cX10_frame 98 = .ok (.iload 4, 2) := by decide +kernel
theorem dX10_frame_100 : decode cX10_frame 100 = .ok (.iaload, 1) := by decide +kernel
theorem dX10_frame_101 : decode cX10_frame 101 = .ok (.imul, 1) := by decide +kernel
theorem dX10_frame_102 : decode cX10_frame 102 = .ok (.iadd, 1) := by decide +kernel
theorem dX10_frame_103 : decode cX10_frame 103 = .ok (.isub, 1) := by decide +kernel
theorem dX10_frame_104 : decode cX10_frame 104 = .ok (.ldc 126, 2) := by decide +kernel
theorem dX10_frame_106 : decode cX10_frame 106 = .ok (.ldc 127, 2) := by decide +kernel
theorem dX10_frame_108 : decode cX10_frame 108 = .ok (.invokevirtual 112, 3) := by decide +kernel
theorem dX10_frame_111 : decode cX10_frame 111 = .ok (.ifCond .ne 6, 3) := by decide +kernel
theorem dX10_frame_114 : decode cX10_frame 114 = .ok (.bipush (-2), 2) := by decide +kernel
theorem dX10_frame_116 : decode cX10_frame 116 = .ok (.ireturn, 1) := by decide +kernel
theorem dX10_frame_117 : decode cX10_frame 117 = .ok (.iinc 4 1, 3) := by decide +kernel
theorem dX10_frame_120 : decode cX10_frame 120 = .ok (.goto (-75), 3) := by decide +kernel
theorem dX10_frame_123 : decode cX10_frame 123 = .ok (.iconst 0, 1) := by decide +kernel
theorem dX10_frame_124 : decode cX10_frame 124 = .ok (.istore 4, 2) := by decide +kernel
theorem dX10_frame_126 : decode cX10_frame 126 = .ok (.iload 4, 2) := by decide +kernel
theorem dX10_frame_128 : decode cX10_frame 128 = .ok (.aload_n 0, 1) := by decide +kernel
theorem dX10_frame_129 : decode cX10_frame 129 = .ok (.getfield 13, 3) := by decide +kernel
theorem dX10_frame_132 : decode cX10_frame 132 = .ok (.if_icmp .ge 51, 3) := by decide +kernel
theorem dX10_frame_135 : decode cX10_frame 135 = .ok (.aload_n 0, 1) := by decide +kernel
theorem dX10_frame_136 : decode cX10_frame 136 = .ok (.getfield 48, 3) := by decide +kernel
theorem dX10_frame_139 : decode cX10_frame 139 = .ok (.iload 4, 2) := by decide +kernel
theorem dX10_frame_141 : decode cX10_frame 141 = .ok (.dup2, 1) := by decide +kernel
theorem dX10_frame_142 : decode cX10_frame 142 = .ok (.iaload, 1) := by decide +kernel
theorem dX10_frame_143 : decode cX10_frame 143 = .ok (.iload_n 1, 1) := by decide +kernel
theorem dX10_frame_144 : decode cX10_frame 144 = .ok (.iload_n 3, 1) := by decide +kernel
theorem dX10_frame_145 : decode cX10_frame 145 = .ok (.aload_n 0, 1) := by decide +kernel
theorem dX10_frame_146 : decode cX10_frame 146 = .ok (.getfield 23, 3) := by decide +kernel
theorem dX10_frame_149 : decode cX10_frame 149 = .ok (.iload 4, 2) := by decide +kernel
theorem dX10_frame_151 : decode cX10_frame 151 = .ok (.iaload, 1) := by decide +kernel
theorem dX10_frame_152 : decode cX10_frame 152 = .ok (.imul, 1) := by decide +kernel
theorem dX10_frame_153 : decode cX10_frame 153 = .ok (.isub, 1) := by decide +kernel
theorem dX10_frame_154 : decode cX10_frame 154 = .ok (.isub, 1) := by decide +kernel
theorem dX10_frame_155 : decode cX10_frame 155 = .ok (.iastore, 1) := by decide +kernel
theorem dX10_frame_156 : decode cX10_frame 156 = .ok (.aload_n 0, 1) := by decide +kernel
theorem dX10_frame_157 : decode cX10_frame 157 = .ok (.getfield 51, 3) := by decide +kernel
theorem dX10_frame_160 : decode cX10_frame 160 = .ok (.iload 4, 2) := by decide +kernel
theorem dX10_frame_162 : decode cX10_frame 162 = .ok (.dup2, 1) := by decide +kernel
theorem dX10_frame_163 : decode cX10_frame 163 = .ok (.iaload, 1) := by decide +kernel
theorem dX10_frame_164 : decode cX10_frame 164 = .ok (.iload_n 2, 1) := by decide +kernel
theorem dX10_frame_165 : decode cX10_frame 165 = .ok (.iload_n 3, 1) := by decide +kernel
theorem dX10_frame_166 : decode cX10_frame 166 = .ok (.aload_n 0, 1) := by decide +kernel
theorem dX10_frame_167 : decode cX10_frame 167 = .ok (.getfield 20, 3) := by decide +kernel
theorem dX10_frame_170 : decode cX10_frame 170 = .ok (.iload 4, 2) := by decide +kernel
theorem dX10_frame_172 : decode cX10_frame 172 = .ok (.iaload, 1) := by decide +kernel
theorem dX10_frame_173 : decode cX10_frame 173 = .ok (.imul, 1) := by decide +kernel
theorem dX10_frame_174 : decode cX10_frame 174 = .ok (.iadd, 1) := by decide +kernel
theorem dX10_frame_175 : decode cX10_frame 175 = .ok (.isub, 1) := by decide +kernel
theorem dX10_frame_176 : decode cX10_frame 176 = .ok (.iastore, 1) := by decide +kernel
theorem dX10_frame_177 : decode cX10_frame 177 = .ok (.iinc 4 1, 3) := by decide +kernel
theorem dX10_frame_180 : decode cX10_frame 180 = .ok (.goto (-54), 3) := by decide +kernel
theorem dX10_frame_183 : decode cX10_frame 183 = .ok (.iconst 1, 1) := by decide +kernel
theorem dX10_frame_184 : decode cX10_frame 184 = .ok (.ireturn, 1) := by decide +kernel
set_option maxRecDepth 20000 in
theorem ggX10_strain_X10_isMark : GoodIn wsX10_strain wsX10_isMark := goodIn_r _ [10, 11, 12, 13, 14, 9, 15, 24, 25, 26, 27, 28, 29, 30, 31, 32, 33, 34, 35, 36, 37, 38, 39, 40, 41, 42, 43, 44, 45, 46, 47, 48, 49, 50, 51, 52, 53, 54, 55, 56] (by decide +kernel) (by decide +kernel)
set_option maxRecDepth 20000 in
theorem gX10_strain_X10_isMark : GoodIn wsX10_strain (wsV RX10 116 RX10 yX10_isMark wsX10_isMark) := goodIn_app (goodIn_of _ (by decide +kernel)) ggX10_strain_X10_isMark
set_option maxRecDepth 20000 in
theorem ggX10_strain_X10_in : GoodIn wsX10_strain wsX10_in := goodIn_r _ [15] (by decide +kernel) (by decide +kernel)
set_option maxRecDepth 20000 in
theorem gX10_strain_X10_in : GoodIn wsX10_strain (wsV RX10 112 RX10 yX10_in wsX10_in) := goodIn_app (goodIn_of _ (by decide +kernel)) ggX10_strain_X10_in
set_option maxRecDepth 20000 in
theorem ggX10_strain_X10_lowest : GoodIn wsX10_strain wsX10_lowest := goodIn_r _ [19, 20, 21, 22, 9, 23] (by decide +kernel) (by decide +kernel)
set_option maxRecDepth 20000 in
theorem gX10_strain_X10_lowest : GoodIn wsX10_strain (wsV RX10 160 RX10 yX10_lowest wsX10_lowest) := goodIn_app (goodIn_of _ (by decide +kernel)) ggX10_strain_X10_lowest
theorem dX10_strain_0 : decode cX10_strain 0 = .ok (.aload_n 0, 1) := by decide +kernel
theorem dX10_strain_1 : decode cX10_strain 1 = .ok (.aload_n 0, 1) := by decide +kernel
theorem dX10_strain_2 : decode cX10_strain 2 = .ok (.iload_n 1, 1) := by decide +kernel
theorem dX10_strain_3 : decode cX10_strain 3 = .ok (.invokevirtual 116, 3) := by decide +kernel
theorem dX10_strain_6 : decode cX10_strain 6 = .ok (.ifCond .eq 34, 3) := by decide +kernel
theorem dX10_strain_9 : decode cX10_strain 9 = .ok (.aload_n 0, 1) := by decide +kernel
theorem dX10_strain_10 : decode cX10_strain 10 = .ok (.iload_n 2, 1) := by decide +kernel
theorem dX10_strain_11 : decode cX10_strain 11 = .ok (.invokevirtual 116, 3) := by decide +kernel
theorem dX10_strain_14 : decode cX10_strain 14 = .ok (.ifCond .eq 26, 3) := by decide +kernel
theorem dX10_strain_17 : decode cX10_strain 17 = .ok (.aload_n 0, 1) := by decide +kernel
theorem dX10_strain_18 : decode cX10_strain 18 = .ok (.iload_n 3, 1) := by decide +kernel
theorem dX10_strain_19 : decode cX10_strain 19 = .ok (.invokevirtual 116, 3) := by decide +kernel
theorem dX10_strain_22 : decode cX10_strain 22 = .ok (.ifCond .eq 18, 3) := by decide +kernel
theorem dX10_strain_25 : decode cX10_strain 25 = .ok (.aload_n 0, 1) := by decide +kernel
theorem dX10_strain_26 : decode cX10_strain 26 = .ok (.iload 4, 2) := by decide +kernel
theorem dX10_strain_28 : decode cX10_strain 28 = .ok (.iconst 0, 1) := by decide +kernel
theorem dX10_strain_29 : decode cX10_strain 29 = .ok (.iconst 3, 1) := by decide +kernel
theorem dX10_strain_30 : decode cX10_strain 30 = .ok (.invokevirtual 112, 3) := by decide +kernel
theorem dX10_strain_33 : decode cX10_strain 33 = .ok (.ifCond .eq 7, 3) := by decide +kernel
theorem dX10_strain_36 : decode cX10_strain 36 = .ok (.iconst 0, 1) := by decide +kernel
theorem dX10_strain_37 : decode cX10_strain 37 = .ok (.goto 4, 3) := by decide +kernel
theorem dX10_strain_40 : decode cX10_strain 40 = .ok (.iconst 1, 1) := by decide +kernel
theorem dX10_strain_41 : decode cX10_strain 41 = .ok (.putfield 7, 3) := by decide +kernel
theorem dX10_strain_44 : decode cX10_strain 44 = .ok (.aload_n 0, 1) := by decide +kernel
theorem dX10_strain_45 : decode cX10_strain 45 = .ok (.getfield 7, 3) := by decide +kernel
theorem dX10_strain_48 : decode cX10_strain 48 = .ok (.ifCond .le 5, 3) := by decide +kernel
theorem dX10_strain_51 : decode cX10_strain 51 = .ok (.lconst 0, 1) := by decide +kernel
theorem dX10_strain_52 : decode cX10_strain 52 = .ok (.lreturn, 1) := by decide +kernel
theorem dX10_strain_53 : decode cX10_strain 53 = .ok (.aload_n 0, 1) := by decide +kernel
theorem dX10_strain_54 : decode cX10_strain 54 = .ok (.getfield 20, 3) := by decide +kernel
theorem dX10_strain_57 : decode cX10_strain 57 = .ok (.iload_n 2, 1) := by decide +kernel
theorem dX10_strain_58 : decode cX10_strain 58 = .ok (.iaload, 1) := by decide +kernel
theorem dX10_strain_59 : decode cX10_strain 59 = .ok (.aload_n 0, 1) := by decide +kernel
theorem dX10_strain_60 : decode cX10_strain 60 = .ok (.getfield 20, 3) := by decide +kernel
theorem dX10_strain_63 : decode cX10_strain 63 = .ok (.iload_n 1, 1) := by decide +kernel
theorem dX10_strain_64 : decode cX10_strain 64 = .ok (.iaload, 1) := by decide +kernel
theorem dX10_strain_65 : decode cX10_strain 65 = .ok (.isub, 1) := by decide +kernel
theorem dX10_strain_66 : decode cX10_strain 66 = .ok (.i2l, 1) := by decide +kernel
theorem dX10_strain_67 : decode cX10_strain 67 = .ok (.lstore 6, 2) := by decide +kernel
theorem dX10_strain_69 : decode cX10_strain 69 = .ok (.aload_n 0, 1) := by decide +kernel
theorem dX10_strain_70 : decode cX10_strain 70 = .ok (.getfield 23, 3) := by decide +kernel
theorem dX10_strain_73 : decode cX10_strain 73 = .ok (.iload_n 2, 1) := by decide +kernel
theorem dX10_strain_74 : decode cX10_strain 74 = .ok (.iaload, 1) := by decide +kernel
theorem dX10_strain_75 : decode cX10_strain 75 = .ok (.aload_n 0, 1) := by decide +kernel
theorem dX10_strain_76 : decode cX10_strain 76 = .ok (.getfield 23, 3) := by decide +kernel
theorem dX10_strain_79 : decode cX10_strain 79 = .ok (.iload_n 1, 1) := by decide +kernel
theorem dX10_strain_80 : decode cX10_strain 80 = .ok (.iaload, 1) := by decide +kernel
theorem dX10_strain_81 : decode cX10_strain 81 = .ok (.isub, 1) := by decide +kernel
theorem dX10_strain_82 : decode cX10_strain 82 = .ok (.i2l, 1) := by decide +kernel
theorem dX10_strain_83 : decode cX10_strain 83 = .ok (.lstore 8, 2) := by decide +kernel
theorem dX10_strain_85 : decode cX10_strain 85 = .ok (.aload_n 0, 1) := by decide +kernel
theorem dX10_strain_86 : decode cX10_strain 86 = .ok (.getfield 20, 3) := by decide +kernel
theorem dX10_strain_89 : decode cX10_strain 89 = .ok (.iload_n 3, 1) := by decide +kernel
theorem dX10_strain_90 : decode cX10_strain 90 = .ok (.iaload, 1) := by decide +kernel
theorem dX10_strain_91 : decode cX10_strain 91 = .ok (.aload_n 0, 1) := by decide +kernel
theorem dX10_strain_92 : decode cX10_strain 92 = .ok (.getfield 20, 3) := by decide +kernel
theorem dX10_strain_95 : decode cX10_strain 95 = .ok (.iload_n 1, 1) := by decide +kernel
theorem dX10_strain_96 : decode cX10_strain 96 = .ok (.iaload, 1) := by decide +kernel
theorem dX10_strain_97 : decode cX10_strain 97 = .ok (.isub, 1) := by decide +kernel
theorem dX10_strain_98 : decode cX10_strain 98 = .ok (.i2l, 1) := by decide +kernel
theorem dX10_strain_99 : decode cX10_strain 99 = .ok (.lstore 10, 2) := by decide +kernel
theorem dX10_strain_101 : decode cX10_strain 101 = .ok (.aload_n 0, 1) := by decide +kernel
theorem dX10_strain_102 : decode cX10_strain 102 = .ok (.getfield 23, 3) := by decide +kernel
theorem dX10_strain_105 : decode cX10_strain 105 = .ok (.iload_n 3, 1) := by decide +kernel
theorem dX10_strain_106 : decode cX10_strain 106 = .ok (.iaload, 1) := by decide +kernel
theorem dX10_strain_107 : decode cX10_strain 107 = .ok (.aload_n 0, 1) := by decide +kernel
theorem dX10_strain_108 : decode cX10_strain 108 = .ok (.getfield 23, 3) := by decide +kernel
theorem dX10_strain_111 : decode cX10_strain 111 = .ok (.iload_n 1, 1) := by decide +kernel
theorem dX10_strain_112 : decode cX10_strain 112 = .ok (.iaload, 1) := by decide +kernel
theorem dX10_strain_113 : decode cX10_strain 113 = .ok (.isub, 1) := by decide +kernel
theorem dX10_strain_114 : decode cX10_strain 114 = .ok (.i2l, 1) := by decide +kernel
theorem dX10_strain_115 : decode cX10_strain 115 = .ok (.lstore 12, 2) := by decide +kernel
theorem dX10_strain_117 : decode cX10_strain 117 = .ok (.aload_n 0, 1) := by decide +kernel
theorem dX10_strain_118 : decode cX10_strain 118 = .ok (.getfield 48, 3) := by decide +kernel
theorem dX10_strain_121 : decode cX10_strain 121 = .ok (.iload_n 2, 1) := by decide +kernel
theorem dX10_strain_122 : decode cX10_strain 122 = .ok (.iaload, 1) := by decide +kernel
theorem dX10_strain_123 : decode cX10_strain 123 = .ok (.aload_n 0, 1) := by decide +kernel
theorem dX10_strain_124 : decode cX10_strain 124 = .ok (.getfield 48, 3) := by decide +kernel
theorem dX10_strain_127 : decode cX10_strain 127 = .ok (.iload_n 1, 1) := by decide +kernel
theorem dX10_strain_128 : decode cX10_strain 128 = .ok (.iaload, 1) := by decide +kernel
theorem dX10_strain_129 : decode cX10_strain 129 = .ok (.isub, 1) := by decide +kernel
theorem dX10_strain_130 : decode cX10_strain 130 = .ok (.i2l, 1) := by decide +kernel
theorem dX10_strain_131 : decode cX10_strain 131 = .ok (.lstore 14, 2) := by decide +kernel
theorem dX10_strain_133 : decode cX10_strain 133 = .ok (.aload_n 0, 1) := by decide +kernel
theorem dX10_strain_134 : decode cX10_strain 134 = .ok (.getfield 51, 3) := by decide +kernel
theorem dX10_strain_137 : decode cX10_strain 137 = .ok (.iload_n 2, 1) := by decide +kernel
theorem dX10_strain_138 : decode cX10_strain 138 = .ok (.iaload, 1) := by decide +kernel
theorem dX10_strain_139 : decode cX10_strain 139 = .ok (.aload_n 0, 1) := by decide +kernel
theorem dX10_strain_140 : decode cX10_strain 140 = .ok (.getfield 51, 3) := by decide +kernel
theorem dX10_strain_143 : decode cX10_strain 143 = .ok (.iload_n 1, 1) := by decide +kernel
theorem dX10_strain_144 : decode cX10_strain 144 = .ok (.iaload, 1) := by decide +kernel
theorem dX10_strain_145 : decode cX10_strain 145 = .ok (.isub, 1) := by decide +kernel
theorem dX10_strain_146 : decode cX10_strain 146 = .ok (.i2l, 1) := by decide +kernel
theorem dX10_strain_147 : decode cX10_strain 147 = .ok (.lstore 16, 2) := by decide +kernel
theorem dX10_strain_149 : decode cX10_strain 149 = .ok (.aload_n 0, 1) := by decide +kernel
theorem dX10_strain_150 : decode cX10_strain 150 = .ok (.getfield 48, 3) := by decide +kernel
theorem dX10_strain_153 : decode cX10_strain 153 = .ok (.iload_n 3, 1) := by decide +kernel
theorem dX10_strain_154 : decode cX10_strain 154 = .ok (.iaload, 1) := by decide +kernel
theorem dX10_strain_155 : decode cX10_strain 155 = .ok (.aload_n 0, 1) := by decide +kernel
theorem dX10_strain_156 : decode cX10_strain 156 = .ok (.getfield 48, 3) := by decide +kernel
theorem dX10_strain_159 : decode cX10_strain 159 = .ok (.iload_n 1, 1) := by decide +kernel
theorem dX10_strain_160 : decode cX10_strain 160 = .ok (.iaload, 1) := by decide +kernel
theorem dX10_strain_161 : decode cX10_strain 161 = .ok (.isub, 1) := by decide +kernel
theorem dX10_strain_162 : decode cX10_strain 162 = .ok (.i2l, 1) := by decide +kernel
theorem dX10_strain_163 : decode cX10_strain 163 = .ok (.lstore 18, 2) := by decide +kernel
theorem dX10_strain_165 : decode cX10_strain 165 = .ok (.aload_n 0, 1) := by decide +kernel
theorem dX10_strain_166 : decode cX10_strain 166 = .ok (.getfield 51, 3) := by decide +kernel
theorem dX10_strain_169 : decode cX10_strain 169 = .ok (.iload_n 3, 1) := by decide +kernel
theorem dX10_strain_170 : decode cX10_strain 170 = .ok (.iaload, 1) := by decide +kernel
theorem dX10_strain_171 : decode cX10_strain 171 = .ok (.aload_n 0, 1) := by decide +kernel
theorem dX10_strain_172 : decode cX10_strain 172 = .ok (.getfield 51, 3) := by decide +kernel
theorem dX10_strain_175 : decode cX10_strain 175 = .ok (.iload_n 1, 1) := by decide +kernel
theorem dX10_strain_176 : decode cX10_strain 176 = .ok (.iaload, 1) := by decide +kernel
theorem dX10_strain_177 : decode cX10_strain 177 = .ok (.isub, 1) := by decide +kernel
theorem dX10_strain_178 : decode cX10_strain 178 = .ok (.i2l, 1) := by decide +kernel
theorem dX10_strain_179 : decode cX10_strain 179 = .ok (.lstore 20, 2) := by decide +kernel
theorem dX10_strain_181 : decode cX10_strain 181 = .ok (.lload 6, 2) := by decide +kernel
theorem dX10_strain_183 : decode cX10_strain 183 = .ok (.lload 12, 2) := by decide +kernel
theorem dX10_strain_185 : decode cX10_strain 185 = .ok (.lmul, 1) := by decide +kernel
theorem dX10_strain_186 : decode cX10_strain 186 = .ok (.lload 10, 2) := by decide +kernel
theorem dX10_strain_188 : decode cX10_strain 188 = .ok (.lload 8, 2) := by decide +kernel
theorem dX10_strain_190 : decode cX10_strain 190 = .ok (.lmul, 1) := by decide +kernel
theorem dX10_strain_191 : decode cX10_strain 191 = .ok (.lsub, 1) := by decide +kernel
theorem dX10_strain_192 : decode cX10_strain 192 = .ok (.lstore 22, 2) := by decide +kernel
theorem dX10_strain_194 : decode cX10_strain 194 = .ok (.aload_n 0, 1) := by decide +kernel
theorem dX10_strain_195 : decode cX10_strain 195 = .ok (.lload 22, 2) := by decide +kernel
theorem dX10_strain_197 : decode cX10_strain 197 = .ok (.lconst 0, 1) := by decide +kernel
theorem dX10_strain_198 : decode cX10_strain 198 = .ok (.lcmp, 1) := by decide +kernel
theorem dX10_strain_199 : decode cX10_strain 199 = .ok (.ifCond .ne 7, 3) := by decide +kernel
theorem dX10_strain_202 : decode cX10_strain 202 = .ok (.iconst 2, 1) := by decide +kernel
theorem dX10_strain_203 : decode cX10_strain 203 = .ok (.goto 4, 3) := by decide +kernel
theorem dX10_strain_206 : decode cX10_strain 206 = .ok (.iconst 0, 1) := by decide +kernel
theorem dX10_strain_207 : decode cX10_strain 207 = .ok (.putfield 7, 3) := by decide +kernel
theorem dX10_strain_210 : decode cX10_strain 210 = .ok (.aload_n 0, 1) := by decide +kernel
theorem dX10_strain_211 : decode cX10_strain 211 = .ok (.getfield 7, 3) := by decide +kernel
end
section
theorem dX10_strain_214 : decode cX10_strain 214 = .ok (.ifCond .le 5, 3) := by decide +kernel
theorem dX10_strain_217 : decode cX10_strain 217 = .ok (.lconst 0, 1) := by decide +kernel
theorem dX10_strain_218 : decode cX10_strain 218 = .ok (.lreturn, 1) := by decide +kernel
theorem dX10_strain_219 : decode cX10_strain 219 = .ok (.lload 6, 2) := by decide +kernel
theorem dX10_strain_221 : decode cX10_strain 221 = .ok (.lload 18, 2) := by decide +kernel
theorem dX10_strain_223 : decode cX10_strain 223 = .ok (.lmul, 1) := by decide +kernel
theorem dX10_strain_224 : decode cX10_strain 224 = .ok (.lload 10, 2) := by decide +kernel
theorem dX10_strain_226 : decode cX10_strain 226 = .ok (.lload 14, 2) := by decide +kernel
theorem dX10_strain_228 : decode cX10_strain 228 = .ok (.lmul, 1) := by decide +kernel
theorem dX10_strain_229 : decode cX10_strain 229 = .ok (.lsub, 1) := by decide +kernel
theorem dX10_strain_230 : decode cX10_strain 230 = .ok (.lstore 24, 2) := by decide +kernel
theorem dX10_strain_232 : decode cX10_strain 232 = .ok (.lload 16, 2) := by decide +kernel
theorem dX10_strain_234 : decode cX10_strain 234 = .ok (.lload 12, 2) := by decide +kernel
theorem dX10_strain_236 : decode cX10_strain 236 = .ok (.lmul, 1) := by decide +kernel
theorem dX10_strain_237 : decode cX10_strain 237 = .ok (.lload 20, 2) := by decide +kernel
theorem dX10_strain_239 : decode cX10_strain 239 = .ok (.lload 8, 2) := by decide +kernel
theorem dX10_strain_241 : decode cX10_strain 241 = .ok (.lmul, 1) := by decide +kernel
theorem dX10_strain_242 : decode cX10_strain 242 = .ok (.lsub, 1) := by decide +kernel
theorem dX10_strain_243 : decode cX10_strain 243 = .ok (.lstore 26, 2) := by decide +kernel
theorem dX10_strain_245 : decode cX10_strain 245 = .ok (.iload 4, 2) := by decide +kernel
theorem dX10_strain_247 : decode cX10_strain 247 = .ok (.ifCond .ne 17, 3) := by decide +kernel
theorem dX10_strain_250 : decode cX10_strain 250 = .ok (.lload 14, 2) := by decide +kernel
theorem dX10_strain_252 : decode cX10_strain 252 = .ok (.lload 12, 2) := by decide +kernel
theorem dX10_strain_254 : decode cX10_strain 254 = .ok (.lmul, 1) := by decide +kernel
theorem dX10_strain_255 : decode cX10_strain 255 = .ok (.lload 18, 2) := by decide +kernel
theorem dX10_strain_257 : decode cX10_strain 257 = .ok (.lload 8, 2) := by decide +kernel
theorem dX10_strain_259 : decode cX10_strain 259 = .ok (.lmul, 1) := by decide +kernel
theorem dX10_strain_260 : decode cX10_strain 260 = .ok (.lsub, 1) := by decide +kernel
theorem dX10_strain_261 : decode cX10_strain 261 = .ok (.goto 42, 3) := by decide +kernel
theorem dX10_strain_264 : decode cX10_strain 264 = .ok (.iload 4, 2) := by decide +kernel
theorem dX10_strain_266 : decode cX10_strain 266 = .ok (.iconst 1, 1) := by decide +kernel
theorem dX10_strain_267 : decode cX10_strain 267 = .ok (.if_icmp .ne 17, 3) := by decide +kernel
theorem dX10_strain_270 : decode cX10_strain 270 = .ok (.lload 6, 2) := by decide +kernel
theorem dX10_strain_272 : decode cX10_strain 272 = .ok (.lload 20, 2) := by decide +kernel
theorem dX10_strain_274 : decode cX10_strain 274 = .ok (.lmul, 1) := by decide +kernel
theorem dX10_strain_275 : decode cX10_strain 275 = .ok (.lload 10, 2) := by decide +kernel
theorem dX10_strain_277 : decode cX10_strain 277 = .ok (.lload 16, 2) := by decide +kernel
theorem dX10_strain_279 : decode cX10_strain 279 = .ok (.lmul, 1) := by decide +kernel
theorem dX10_strain_280 : decode cX10_strain 280 = .ok (.lsub, 1) := by decide +kernel
theorem dX10_strain_281 : decode cX10_strain 281 = .ok (.goto 22, 3) := by decide +kernel
theorem dX10_strain_284 : decode cX10_strain 284 = .ok (.iload 4, 2) := by decide +kernel
theorem dX10_strain_286 : decode cX10_strain 286 = .ok (.iconst 2, 1) := by decide +kernel
theorem dX10_strain_287 : decode cX10_strain 287 = .ok (.if_icmp .ne 11, 3) := by decide +kernel
theorem dX10_strain_290 : decode cX10_strain 290 = .ok (.lload 24, 2) := by decide +kernel
theorem dX10_strain_292 : decode cX10_strain 292 = .ok (.lload 26, 2) := by decide +kernel
theorem dX10_strain_294 : decode cX10_strain 294 = .ok (.ladd, 1) := by decide +kernel
theorem dX10_strain_295 : decode cX10_strain 295 = .ok (.goto 8, 3) := by decide +kernel
theorem dX10_strain_298 : decode cX10_strain 298 = .ok (.lload 26, 2) := by decide +kernel
theorem dX10_strain_300 : decode cX10_strain 300 = .ok (.lload 24, 2) := by decide +kernel
theorem dX10_strain_302 : decode cX10_strain 302 = .ok (.lsub, 1) := by decide +kernel
theorem dX10_strain_303 : decode cX10_strain 303 = .ok (.lstore 28, 2) := by decide +kernel
theorem dX10_strain_305 : decode cX10_strain 305 = .ok (.aload_n 0, 1) := by decide +kernel
theorem dX10_strain_306 : decode cX10_strain 306 = .ok (.lload 28, 2) := by decide +kernel
theorem dX10_strain_308 : decode cX10_strain 308 = .ok (.lload 22, 2) := by decide +kernel
theorem dX10_strain_310 : decode cX10_strain 310 = .ok (.iload 5, 2) := by decide +kernel
theorem dX10_strain_312 : decode cX10_strain 312 = .ok (.invokevirtual 160, 3) := by decide +kernel
theorem dX10_strain_315 : decode cX10_strain 315 = .ok (.lreturn, 1) := by decide +kernel
theorem dX10_isBlock_0 : decode cX10_isBlock 0 = .ok (.iconst 0, 1) := by decide +kernel
theorem dX10_isBlock_1 : decode cX10_isBlock 1 = .ok (.istore_n 2, 1) := by decide +kernel
theorem dX10_isBlock_2 : decode cX10_isBlock 2 = .ok (.iload_n 1, 1) := by decide +kernel
theorem dX10_isBlock_3 : decode cX10_isBlock 3 = .ok (.iload_n 2, 1) := by decide +kernel
theorem dX10_isBlock_4 : decode cX10_isBlock 4 = .ok (.ishr, 1) := by decide +kernel
theorem dX10_isBlock_5 : decode cX10_isBlock 5 = .ok (.iconst 1, 1) := by decide +kernel
theorem dX10_isBlock_6 : decode cX10_isBlock 6 = .ok (.iand, 1) := by decide +kernel
theorem dX10_isBlock_7 : decode cX10_isBlock 7 = .ok (.ifCond .ne 9, 3) := by decide +kernel
theorem dX10_isBlock_10 : decode cX10_isBlock 10 = .ok (.iinc 2 1, 3) := by decide +kernel
theorem dX10_isBlock_13 : decode cX10_isBlock 13 = .ok (.goto (-11), 3) := by decide +kernel
theorem dX10_isBlock_16 : decode cX10_isBlock 16 = .ok (.lconst 0, 1) := by decide +kernel
theorem dX10_isBlock_17 : decode cX10_isBlock 17 = .ok (.lstore_n 3, 1) := by decide +kernel
theorem dX10_isBlock_18 : decode cX10_isBlock 18 = .ok (.lconst 0, 1) := by decide +kernel
theorem dX10_isBlock_19 : decode cX10_isBlock 19 = .ok (.lstore 5, 2) := by decide +kernel
theorem dX10_isBlock_21 : decode cX10_isBlock 21 = .ok (.iload_n 2, 1) := by decide +kernel
theorem dX10_isBlock_22 : decode cX10_isBlock 22 = .ok (.iconst 1, 1) := by decide +kernel
theorem dX10_isBlock_23 : decode cX10_isBlock 23 = .ok (.iadd, 1) := by decide +kernel
theorem dX10_isBlock_24 : decode cX10_isBlock 24 = .ok (.istore 7, 2) := by decide +kernel
theorem dX10_isBlock_26 : decode cX10_isBlock 26 = .ok (.iload 7, 2) := by decide +kernel
theorem dX10_isBlock_28 : decode cX10_isBlock 28 = .ok (.aload_n 0, 1) := by decide +kernel
theorem dX10_isBlock_29 : decode cX10_isBlock 29 = .ok (.getfield 13, 3) := by decide +kernel
theorem dX10_isBlock_32 : decode cX10_isBlock 32 = .ok (.if_icmp .ge 186, 3) := by decide +kernel
theorem dX10_isBlock_35 : decode cX10_isBlock 35 = .ok (.iload_n 1, 1) := by decide +kernel
theorem dX10_isBlock_36 : decode cX10_isBlock 36 = .ok (.iload 7, 2) := by decide +kernel
theorem dX10_isBlock_38 : decode cX10_isBlock 38 = .ok (.ishr, 1) := by decide +kernel
theorem dX10_isBlock_39 : decode cX10_isBlock 39 = .ok (.iconst 1, 1) := by decide +kernel
theorem dX10_isBlock_40 : decode cX10_isBlock 40 = .ok (.iand, 1) := by decide +kernel
theorem dX10_isBlock_41 : decode cX10_isBlock 41 = .ok (.ifCond .ne 6, 3) := by decide +kernel
theorem dX10_isBlock_44 : decode cX10_isBlock 44 = .ok (.goto 168, 3) := by decide +kernel
theorem dX10_isBlock_47 : decode cX10_isBlock 47 = .ok (.aload_n 0, 1) := by decide +kernel
theorem dX10_isBlock_48 : decode cX10_isBlock 48 = .ok (.getfield 20, 3) := by decide +kernel
theorem dX10_isBlock_51 : decode cX10_isBlock 51 = .ok (.iload 7, 2) := by decide +kernel
theorem dX10_isBlock_53 : decode cX10_isBlock 53 = .ok (.iaload, 1) := by decide +kernel
theorem dX10_isBlock_54 : decode cX10_isBlock 54 = .ok (.aload_n 0, 1) := by decide +kernel
theorem dX10_isBlock_55 : decode cX10_isBlock 55 = .ok (.getfield 20, 3) := by decide +kernel
theorem dX10_isBlock_58 : decode cX10_isBlock 58 = .ok (.iload_n 2, 1) := by decide +kernel
theorem dX10_isBlock_59 : decode cX10_isBlock 59 = .ok (.iaload, 1) := by decide +kernel
theorem dX10_isBlock_60 : decode cX10_isBlock 60 = .ok (.isub, 1) := by decide +kernel
theorem dX10_isBlock_61 : decode cX10_isBlock 61 = .ok (.i2l, 1) := by decide +kernel
theorem dX10_isBlock_62 : decode cX10_isBlock 62 = .ok (.lstore 8, 2) := by decide +kernel
theorem dX10_isBlock_64 : decode cX10_isBlock 64 = .ok (.aload_n 0, 1) := by decide +kernel
theorem dX10_isBlock_65 : decode cX10_isBlock 65 = .ok (.getfield 23, 3) := by decide +kernel
theorem dX10_isBlock_68 : decode cX10_isBlock 68 = .ok (.iload 7, 2) := by decide +kernel
theorem dX10_isBlock_70 : decode cX10_isBlock 70 = .ok (.iaload, 1) := by decide +kernel
theorem dX10_isBlock_71 : decode cX10_isBlock 71 = .ok (.aload_n 0, 1) := by decide +kernel
theorem dX10_isBlock_72 : decode cX10_isBlock 72 = .ok (.getfield 23, 3) := by decide +kernel
theorem dX10_isBlock_75 : decode cX10_isBlock 75 = .ok (.iload_n 2, 1) := by decide +kernel
theorem dX10_isBlock_76 : decode cX10_isBlock 76 = .ok (.iaload, 1) := by decide +kernel
theorem dX10_isBlock_77 : decode cX10_isBlock 77 = .ok (.isub, 1) := by decide +kernel
theorem dX10_isBlock_78 : decode cX10_isBlock 78 = .ok (.i2l, 1) := by decide +kernel
theorem dX10_isBlock_79 : decode cX10_isBlock 79 = .ok (.lstore 10, 2) := by decide +kernel
theorem dX10_isBlock_81 : decode cX10_isBlock 81 = .ok (.aload_n 0, 1) := by decide +kernel
theorem dX10_isBlock_82 : decode cX10_isBlock 82 = .ok (.getfield 48, 3) := by decide +kernel
theorem dX10_isBlock_85 : decode cX10_isBlock 85 = .ok (.iload 7, 2) := by decide +kernel
theorem dX10_isBlock_87 : decode cX10_isBlock 87 = .ok (.iaload, 1) := by decide +kernel
theorem dX10_isBlock_88 : decode cX10_isBlock 88 = .ok (.aload_n 0, 1) := by decide +kernel
theorem dX10_isBlock_89 : decode cX10_isBlock 89 = .ok (.getfield 48, 3) := by decide +kernel
theorem dX10_isBlock_92 : decode cX10_isBlock 92 = .ok (.iload_n 2, 1) := by decide +kernel
theorem dX10_isBlock_93 : decode cX10_isBlock 93 = .ok (.iaload, 1) := by decide +kernel
theorem dX10_isBlock_94 : decode cX10_isBlock 94 = .ok (.isub, 1) := by decide +kernel
theorem dX10_isBlock_95 : decode cX10_isBlock 95 = .ok (.i2l, 1) := by decide +kernel
theorem dX10_isBlock_96 : decode cX10_isBlock 96 = .ok (.lstore 12, 2) := by decide +kernel
theorem dX10_isBlock_98 : decode cX10_isBlock 98 = .ok (.aload_n 0, 1) := by decide +kernel
theorem dX10_isBlock_99 : decode cX10_isBlock 99 = .ok (.getfield 51, 3) := by decide +kernel
theorem dX10_isBlock_102 : decode cX10_isBlock 102 = .ok (.iload 7, 2) := by decide +kernel
theorem dX10_isBlock_104 : decode cX10_isBlock 104 = .ok (.iaload, 1) := by decide +kernel
theorem dX10_isBlock_105 : decode cX10_isBlock 105 = .ok (.aload_n 0, 1) := by decide +kernel
theorem dX10_isBlock_106 : decode cX10_isBlock 106 = .ok (.getfield 51, 3) := by decide +kernel
theorem dX10_isBlock_109 : decode cX10_isBlock 109 = .ok (.iload_n 2, 1) := by decide +kernel
theorem dX10_isBlock_110 : decode cX10_isBlock 110 = .ok (.iaload, 1) := by decide +kernel
theorem dX10_isBlock_111 : decode cX10_isBlock 111 = .ok (.isub, 1) := by decide +kernel
theorem dX10_isBlock_112 : decode cX10_isBlock 112 = .ok (.i2l, 1) := by decide +kernel
theorem dX10_isBlock_113 : decode cX10_isBlock 113 = .ok (.lstore 14, 2) := by decide +kernel
theorem dX10_isBlock_115 : decode cX10_isBlock 115 = .ok (.lload 5, 2) := by decide +kernel
theorem dX10_isBlock_117 : decode cX10_isBlock 117 = .ok (.lconst 0, 1) := by decide +kernel
theorem dX10_isBlock_118 : decode cX10_isBlock 118 = .ok (.lcmp, 1) := by decide +kernel
theorem dX10_isBlock_119 : decode cX10_isBlock 119 = .ok (.ifCond .ne 49, 3) := by decide +kernel
theorem dX10_isBlock_122 : decode cX10_isBlock 122 = .ok (.lload 8, 2) := by decide +kernel
theorem dX10_isBlock_124 : decode cX10_isBlock 124 = .ok (.lconst 0, 1) := by decide +kernel
theorem dX10_isBlock_125 : decode cX10_isBlock 125 = .ok (.lcmp, 1) := by decide +kernel
theorem dX10_isBlock_126 : decode cX10_isBlock 126 = .ok (.ifCond .ne 10, 3) := by decide +kernel
theorem dX10_isBlock_129 : decode cX10_isBlock 129 = .ok (.lload 10, 2) := by decide +kernel
theorem dX10_isBlock_131 : decode cX10_isBlock 131 = .ok (.lconst 0, 1) := by decide +kernel
theorem dX10_isBlock_132 : decode cX10_isBlock 132 = .ok (.lcmp, 1) := by decide +kernel
theorem dX10_isBlock_133 : decode cX10_isBlock 133 = .ok (.ifCond .eq 35, 3) := by decide +kernel
theorem dX10_isBlock_136 : decode cX10_isBlock 136 = .ok (.lload 8, 2) := by decide +kernel
theorem dX10_isBlock_138 : decode cX10_isBlock 138 = .ok (.lconst 0, 1) := by decide +kernel
theorem dX10_isBlock_139 : decode cX10_isBlock 139 = .ok (.lcmp, 1) := by decide +kernel
theorem dX10_isBlock_140 : decode cX10_isBlock 140 = .ok (.ifCond .eq 8, 3) := by decide +kernel
theorem dX10_isBlock_143 : decode cX10_isBlock 143 = .ok (.lload 14, 2) := by decide +kernel
theorem dX10_isBlock_145 : decode cX10_isBlock 145 = .ok (.goto 6, 3) := by decide +kernel
theorem dX10_isBlock_148 : decode cX10_isBlock 148 = .ok (.lload 12, 2) := by decide +kernel
theorem dX10_isBlock_150 : decode cX10_isBlock 150 = .ok (.lneg, 1) := by decide +kernel
theorem dX10_isBlock_151 : decode cX10_isBlock 151 = .ok (.lstore_n 3, 1) := by decide +kernel
theorem dX10_isBlock_152 : decode cX10_isBlock 152 = .ok (.lload 8, 2) := by decide +kernel
theorem dX10_isBlock_154 : decode cX10_isBlock 154 = .ok (.lconst 0, 1) := by decide +kernel
theorem dX10_isBlock_155 : decode cX10_isBlock 155 = .ok (.lcmp, 1) := by decide +kernel
theorem dX10_isBlock_156 : decode cX10_isBlock 156 = .ok (.ifCond .eq 8, 3) := by decide +kernel
theorem dX10_isBlock_159 : decode cX10_isBlock 159 = .ok (.lload 8, 2) := by decide +kernel
theorem dX10_isBlock_161 : decode cX10_isBlock 161 = .ok (.goto 5, 3) := by decide +kernel
theorem dX10_isBlock_164 : decode cX10_isBlock 164 = .ok (.lload 10, 2) := by decide +kernel
theorem dX10_isBlock_166 : decode cX10_isBlock 166 = .ok (.lstore 5, 2) := by decide +kernel
theorem dX10_isBlock_168 : decode cX10_isBlock 168 = .ok (.lload 5, 2) := by decide +kernel
theorem dX10_isBlock_170 : decode cX10_isBlock 170 = .ok (.lconst 0, 1) := by decide +kernel
theorem dX10_isBlock_171 : decode cX10_isBlock 171 = .ok (.lcmp, 1) := by decide +kernel
theorem dX10_isBlock_172 : decode cX10_isBlock 172 = .ok (.ifCond .ne 7, 3) := by decide +kernel
theorem dX10_isBlock_175 : decode cX10_isBlock 175 = .ok (.lconst 1, 1) := by decide +kernel
theorem dX10_isBlock_176 : decode cX10_isBlock 176 = .ok (.goto 5, 3) := by decide +kernel
theorem dX10_isBlock_179 : decode cX10_isBlock 179 = .ok (.lload 5, 2) := by decide +kernel
theorem dX10_isBlock_181 : decode cX10_isBlock 181 = .ok (.lstore 16, 2) := by decide +kernel
theorem dX10_isBlock_183 : decode cX10_isBlock 183 = .ok (.lload 12, 2) := by decide +kernel
theorem dX10_isBlock_185 : decode cX10_isBlock 185 = .ok (.lload 16, 2) := by decide +kernel
theorem dX10_isBlock_187 : decode cX10_isBlock 187 = .ok (.lmul, 1) := by decide +kernel
theorem dX10_isBlock_188 : decode cX10_isBlock 188 = .ok (.lload_n 3, 1) := by decide +kernel
theorem dX10_isBlock_189 : decode cX10_isBlock 189 = .ok (.lneg, 1) := by decide +kernel
theorem dX10_isBlock_190 : decode cX10_isBlock 190 = .ok (.lload 10, 2) := by decide +kernel
theorem dX10_isBlock_192 : decode cX10_isBlock 192 = .ok (.lmul, 1) := by decide +kernel
theorem dX10_isBlock_193 : decode cX10_isBlock 193 = .ok (.lcmp, 1) := by decide +kernel
theorem dX10_isBlock_194 : decode cX10_isBlock 194 = .ok (.ifCond .ne 16, 3) := by decide +kernel
theorem dX10_isBlock_197 : decode cX10_isBlock 197 = .ok (.lload 14, 2) := by decide +kernel
theorem dX10_isBlock_199 : decode cX10_isBlock 199 = .ok (.lload 16, 2) := by decide +kernel
theorem dX10_isBlock_201 : decode cX10_isBlock 201 = .ok (.lmul, 1) := by decide +kernel
theorem dX10_isBlock_202 : decode cX10_isBlock 202 = .ok (.lload_n 3, 1) := by decide +kernel
theorem dX10_isBlock_203 : decode cX10_isBlock 203 = .ok (.lload 8, 2) := by decide +kernel
theorem dX10_isBlock_205 : decode cX10_isBlock 205 = .ok (.lmul, 1) := by decide +kernel
theorem dX10_isBlock_206 : decode cX10_isBlock 206 = .ok (.lcmp, 1) := by decide +kernel
theorem dX10_isBlock_207 : decode cX10_isBlock 207 = .ok (.ifCond .eq 5, 3) := by decide +kernel
theorem dX10_isBlock_210 : decode cX10_isBlock 210 = .ok (.iconst 0, 1) := by decide +kernel
theorem dX10_isBlock_211 : decode cX10_isBlock 211 = .ok (.ireturn, 1) := by decide +kernel
theorem dX10_isBlock_212 : decode cX10_isBlock 212 = .ok (.iinc 7 1, 3) := by decide +kernel
theorem dX10_isBlock_215 : decode cX10_isBlock 215 = .ok (.goto (-189), 3) := by decide +kernel
theorem dX10_isBlock_218 : decode cX10_isBlock 218 = .ok (.iconst 1, 1) := by decide +kernel
theorem dX10_isBlock_219 : decode cX10_isBlock 219 = .ok (.ireturn, 1) := by decide +kernel
set_option maxRecDepth 20000 in
theorem ggX10_block_X10_in : GoodIn wsX10_block wsX10_in := goodIn_r _ [6] (by decide +kernel) (by decide +kernel)
set_option maxRecDepth 20000 in
theorem gX10_block_X10_in : GoodIn wsX10_block (wsV RX10 112 RX10 yX10_in wsX10_in) := goodIn_app (goodIn_of _ (by decide +kernel)) ggX10_block_X10_in
set_option maxRecDepth 20000 in
theorem ggX10_block_X10_isBlock : GoodIn wsX10_block wsX10_isBlock := goodIn_r _ [10, 1, 11, 12, 13, 14, 15, 16, 17, 18, 19, 20, 21, 22, 23, 24, 25, 26, 27, 28, 29, 30, 31, 32, 33, 34, 35, 36, 37, 38, 39, 40, 41, 42, 43, 44, 45, 46, 47] (by decide +kernel) (by decide +kernel)
set_option maxRecDepth 20000 in
theorem gX10_block_X10_isBlock : GoodIn wsX10_block (wsV RX10 168 RX10 yX10_isBlock wsX10_isBlock) := goodIn_app (goodIn_of _ (by decide +kernel)) ggX10_block_X10_isBlock
theorem dX10_block_0 : decode cX10_block 0 = .ok (.aload_n 0, 1) := by decide +kernel
theorem dX10_block_1 : decode cX10_block 1 = .ok (.iload_n 1, 1) := by decide +kernel
theorem dX10_block_2 : decode cX10_block 2 = .ok (.iconst 1, 1) := by decide +kernel
theorem dX10_block_3 : decode cX10_block 3 = .ok (.iconst 1, 1) := by decide +kernel
theorem dX10_block_4 : decode cX10_block 4 = .ok (.aload_n 0, 1) := by decide +kernel
theorem dX10_block_5 : decode cX10_block 5 = .ok (.getfield 13, 3) := by decide +kernel
theorem dX10_block_8 : decode cX10_block 8 = .ok (.ishl, 1) := by decide +kernel
theorem dX10_block_9 : decode cX10_block 9 = .ok (.iconst 1, 1) := by decide +kernel
theorem dX10_block_10 : decode cX10_block 10 = .ok (.isub, 1) := by decide +kernel
theorem dX10_block_11 : decode cX10_block 11 = .ok (.invokevirtual 112, 3) := by decide +kernel
theorem dX10_block_14 : decode cX10_block 14 = .ok (.ifCond .eq 19, 3) := by decide +kernel
theorem dX10_block_17 : decode cX10_block 17 = .ok (.aload_n 0, 1) := by decide +kernel
theorem dX10_block_18 : decode cX10_block 18 = .ok (.iload_n 1, 1) := by decide +kernel
theorem dX10_block_19 : decode cX10_block 19 = .ok (.invokevirtual 168, 3) := by decide +kernel
theorem dX10_block_22 : decode cX10_block 22 = .ok (.ifCond .eq 7, 3) := by decide +kernel
theorem dX10_block_25 : decode cX10_block 25 = .ok (.iconst 1, 1) := by decide +kernel
theorem dX10_block_26 : decode cX10_block 26 = .ok (.goto 8, 3) := by decide +kernel
theorem dX10_block_29 : decode cX10_block 29 = .ok (.iconst 0, 1) := by decide +kernel
theorem dX10_block_30 : decode cX10_block 30 = .ok (.goto 4, 3) := by decide +kernel
theorem dX10_block_33 : decode cX10_block 33 = .ok (.iconst (-1), 1) := by decide +kernel
theorem dX10_block_34 : decode cX10_block 34 = .ok (.ireturn, 1) := by decide +kernel
set_option maxRecDepth 20000 in
theorem ggX10_findBlocks_X10_isBlock : GoodIn wsX10_findBlocks wsX10_isBlock := goodIn_r _ [9, 1, 10, 11, 12, 13, 14, 15, 16, 17, 18, 19, 20, 21, 22, 23, 24, 25, 26, 27, 28, 29, 30, 31, 32, 33, 34, 35, 36, 37, 38, 39, 40, 41, 42, 43, 44, 45, 46] (by decide +kernel) (by decide +kernel)
set_option maxRecDepth 20000 in
theorem gX10_findBlocks_X10_isBlock : GoodIn wsX10_findBlocks (wsV RX10 168 RX10 yX10_isBlock wsX10_isBlock) := goodIn_app (goodIn_of _ (by decide +kernel)) ggX10_findBlocks_X10_isBlock
theorem dX10_findBlocks_0 : decode cX10_findBlocks 0 = .ok (.iconst 1, 1) := by decide +kernel
theorem dX10_findBlocks_1 : decode cX10_findBlocks 1 = .ok (.aload_n 0, 1) := by decide +kernel
theorem dX10_findBlocks_2 : decode cX10_findBlocks 2 = .ok (.getfield 13, 3) := by decide +kernel
theorem dX10_findBlocks_5 : decode cX10_findBlocks 5 = .ok (.ishl, 1) := by decide +kernel
theorem dX10_findBlocks_6 : decode cX10_findBlocks 6 = .ok (.iconst 1, 1) := by decide +kernel
theorem dX10_findBlocks_7 : decode cX10_findBlocks 7 = .ok (.isub, 1) := by decide +kernel
theorem dX10_findBlocks_8 : decode cX10_findBlocks 8 = .ok (.istore_n 1, 1) := by decide +kernel
theorem dX10_findBlocks_9 : decode cX10_findBlocks 9 = .ok (.aload_n 0, 1) := by decide +kernel
theorem dX10_findBlocks_10 : decode cX10_findBlocks 10 = .ok (.getfield 54, 3) := by decide +kernel
theorem dX10_findBlocks_13 : decode cX10_findBlocks 13 = .ok (.iconst 0, 1) := by decide +kernel
theorem dX10_findBlocks_14 : decode cX10_findBlocks 14 = .ok (.iconst 0, 1) := by decide +kernel
theorem dX10_findBlocks_15 : decode cX10_findBlocks 15 = .ok (.iastore, 1) := by decide +kernel
theorem dX10_findBlocks_16 : decode cX10_findBlocks 16 = .ok (.iconst 1, 1) := by decide +kernel
theorem dX10_findBlocks_17 : decode cX10_findBlocks 17 = .ok (.istore_n 2, 1) := by decide +kernel
theorem dX10_findBlocks_18 : decode cX10_findBlocks 18 = .ok (.iload_n 2, 1) := by decide +kernel
theorem dX10_findBlocks_19 : decode cX10_findBlocks 19 = .ok (.iload_n 1, 1) := by decide +kernel
theorem dX10_findBlocks_20 : decode cX10_findBlocks 20 = .ok (.if_icmp .gt 115, 3) := by decide +kernel
theorem dX10_findBlocks_23 : decode cX10_findBlocks 23 = .ok (.aload_n 0, 1) := by decide +kernel
theorem dX10_findBlocks_24 : decode cX10_findBlocks 24 = .ok (.getfield 60, 3) := by decide +kernel
theorem dX10_findBlocks_27 : decode cX10_findBlocks 27 = .ok (.iload_n 2, 1) := by decide +kernel
theorem dX10_findBlocks_28 : decode cX10_findBlocks 28 = .ok (.aload_n 0, 1) := by decide +kernel
theorem dX10_findBlocks_29 : decode cX10_findBlocks 29 = .ok (.iload_n 2, 1) := by decide +kernel
theorem dX10_findBlocks_30 : decode cX10_findBlocks 30 = .ok (.invokevirtual 168, 3) := by decide +kernel
theorem dX10_findBlocks_33 : decode cX10_findBlocks 33 = .ok (.bastore, 1) := by decide +kernel
theorem dX10_findBlocks_34 : decode cX10_findBlocks 34 = .ok (.aload_n 0, 1) := by decide +kernel
theorem dX10_findBlocks_35 : decode cX10_findBlocks 35 = .ok (.getfield 54, 3) := by decide +kernel
theorem dX10_findBlocks_38 : decode cX10_findBlocks 38 = .ok (.iload_n 2, 1) := by decide +kernel
theorem dX10_findBlocks_39 : decode cX10_findBlocks 39 = .ok (.bipush 99, 2) := by decide +kernel
theorem dX10_findBlocks_41 : decode cX10_findBlocks 41 = .ok (.iastore, 1) := by decide +kernel
theorem dX10_findBlocks_42 : decode cX10_findBlocks 42 = .ok (.iload_n 2, 1) := by decide +kernel
theorem dX10_findBlocks_43 : decode cX10_findBlocks 43 = .ok (.iload_n 2, 1) := by decide +kernel
theorem dX10_findBlocks_44 : decode cX10_findBlocks 44 = .ok (.ineg, 1) := by decide +kernel
theorem dX10_findBlocks_45 : decode cX10_findBlocks 45 = .ok (.iand, 1) := by decide +kernel
theorem dX10_findBlocks_46 : decode cX10_findBlocks 46 = .ok (.istore_n 3, 1) := by decide +kernel
theorem dX10_findBlocks_47 : decode cX10_findBlocks 47 = .ok (.iload_n 2, 1) := by decide +kernel
theorem dX10_findBlocks_48 : decode cX10_findBlocks 48 = .ok (.istore 4, 2) := by decide +kernel
theorem dX10_findBlocks_50 : decode cX10_findBlocks 50 = .ok (.iload 4, 2) := by decide +kernel
theorem dX10_findBlocks_52 : decode cX10_findBlocks 52 = .ok (.ifCond .le 77, 3) := by decide +kernel
theorem dX10_findBlocks_55 : decode cX10_findBlocks 55 = .ok (.iload 4, 2) := by decide +kernel
theorem dX10_findBlocks_57 : decode cX10_findBlocks 57 = .ok (.iload_n 3, 1) := by decide +kernel
theorem dX10_findBlocks_58 : decode cX10_findBlocks 58 = .ok (.iand, 1) := by decide +kernel
theorem dX10_findBlocks_59 : decode cX10_findBlocks 59 = .ok (.ifCond .eq 59, 3) := by decide +kernel
theorem dX10_findBlocks_62 : decode cX10_findBlocks 62 = .ok (.aload_n 0, 1) := by decide +kernel
theorem dX10_findBlocks_63 : decode cX10_findBlocks 63 = .ok (.getfield 60, 3) := by decide +kernel
theorem dX10_findBlocks_66 : decode cX10_findBlocks 66 = .ok (.iload 4, 2) := by decide +kernel
theorem dX10_findBlocks_68 : decode cX10_findBlocks 68 = .ok (.baload, 1) := by decide +kernel
theorem dX10_findBlocks_69 : decode cX10_findBlocks 69 = .ok (.ifCond .ne 6, 3) := by decide +kernel
theorem dX10_findBlocks_72 : decode cX10_findBlocks 72 = .ok (.goto 46, 3) := by decide +kernel
theorem dX10_findBlocks_75 : decode cX10_findBlocks 75 = .ok (.iconst 1, 1) := by decide +kernel
theorem dX10_findBlocks_76 : decode cX10_findBlocks 76 = .ok (.aload_n 0, 1) := by decide +kernel
theorem dX10_findBlocks_77 : decode cX10_findBlocks 77 = .ok (.getfield 54, 3) := by decide +kernel
theorem dX10_findBlocks_80 : decode cX10_findBlocks 80 = .ok (.iload_n 2, 1) := by decide +kernel
theorem dX10_findBlocks_81 : decode cX10_findBlocks 81 = .ok (.iload 4, 2) := by decide +kernel
theorem dX10_findBlocks_83 : decode cX10_findBlocks 83 = .ok (.iconst (-1), 1) := by decide +kernel
theorem dX10_findBlocks_84 : decode cX10_findBlocks 84 = .ok (.ixor, 1) := by decide +kernel
theorem dX10_findBlocks_85 : decode cX10_findBlocks 85 = .ok (.iand, 1) := by decide +kernel
theorem dX10_findBlocks_86 : decode cX10_findBlocks 86 = .ok (.iaload, 1) := by decide +kernel
theorem dX10_findBlocks_87 : decode cX10_findBlocks 87 = .ok (.iadd, 1) := by decide +kernel
theorem dX10_findBlocks_88 : decode cX10_findBlocks 88 = .ok (.istore 5, 2) := by decide +kernel
theorem dX10_findBlocks_90 : decode cX10_findBlocks 90 = .ok (.aload_n 0, 1) := by decide +kernel
theorem dX10_findBlocks_91 : decode cX10_findBlocks 91 = .ok (.getfield 54, 3) := by decide +kernel
theorem dX10_findBlocks_94 : decode cX10_findBlocks 94 = .ok (.iload_n 2, 1) := by decide +kernel
theorem dX10_findBlocks_95 : decode cX10_findBlocks 95 = .ok (.iload 5, 2) := by decide +kernel
theorem dX10_findBlocks_97 : decode cX10_findBlocks 97 = .ok (.aload_n 0, 1) := by decide +kernel
theorem dX10_findBlocks_98 : decode cX10_findBlocks 98 = .ok (.getfield 54, 3) := by decide +kernel
theorem dX10_findBlocks_101 : decode cX10_findBlocks 101 = .ok (.iload_n 2, 1) := by decide +kernel
theorem dX10_findBlocks_102 : decode cX10_findBlocks 102 = .ok (.iaload, 1) := by decide +kernel
theorem dX10_findBlocks_103 : decode cX10_findBlocks 103 = .ok (.if_icmp .ge 8, 3) := by decide +kernel
theorem dX10_findBlocks_106 : decode cX10_findBlocks 106 = .ok (.iload 5, 2) := by decide +kernel
theorem dX10_findBlocks_108 : decode cX10_findBlocks 108 = .ok (.goto 9, 3) := by decide +kernel
theorem dX10_findBlocks_111 : decode cX10_findBlocks 111 = .ok (.aload_n 0, 1) := by decide +kernel
theorem dX10_findBlocks_112 : decode cX10_findBlocks 112 = .ok (.getfield 54, 3) := by decide +kernel
theorem dX10_findBlocks_115 : decode cX10_findBlocks 115 = .ok (.iload_n 2, 1) := by decide +kernel
theorem dX10_findBlocks_116 : decode cX10_findBlocks 116 = .ok (.iaload, 1) := by decide +kernel
theorem dX10_findBlocks_117 : decode cX10_findBlocks 117 = .ok (.iastore, 1) := by decide +kernel
theorem dX10_findBlocks_118 : decode cX10_findBlocks 118 = .ok (.iload 4, 2) := by decide +kernel
theorem dX10_findBlocks_120 : decode cX10_findBlocks 120 = .ok (.iconst 1, 1) := by decide +kernel
theorem dX10_findBlocks_121 : decode cX10_findBlocks 121 = .ok (.isub, 1) := by decide +kernel
theorem dX10_findBlocks_122 : decode cX10_findBlocks 122 = .ok (.iload_n 2, 1) := by decide +kernel
theorem dX10_findBlocks_123 : decode cX10_findBlocks 123 = .ok (.iand, 1) := by decide +kernel
theorem dX10_findBlocks_124 : decode cX10_findBlocks 124 = .ok (.istore 4, 2) := by decide +kernel
theorem dX10_findBlocks_126 : decode cX10_findBlocks 126 = .ok (.goto (-76), 3) := by decide +kernel
theorem dX10_findBlocks_129 : decode cX10_findBlocks 129 = .ok (.iinc 2 1, 3) := by decide +kernel
theorem dX10_findBlocks_132 : decode cX10_findBlocks 132 = .ok (.goto (-114), 3) := by decide +kernel
theorem dX10_findBlocks_135 : decode cX10_findBlocks 135 = .ok (.iload_n 1, 1) := by decide +kernel
theorem dX10_findBlocks_136 : decode cX10_findBlocks 136 = .ok (.istore_n 2, 1) := by decide +kernel
theorem dX10_findBlocks_137 : decode cX10_findBlocks 137 = .ok (.iload_n 2, 1) := by decide +kernel
theorem dX10_findBlocks_138 : decode cX10_findBlocks 138 = .ok (.ifCond .le 131, 3) := by decide +kernel
theorem dX10_findBlocks_141 : decode cX10_findBlocks 141 = .ok (.iload_n 2, 1) := by decide +kernel
theorem dX10_findBlocks_142 : decode cX10_findBlocks 142 = .ok (.iload_n 2, 1) := by decide +kernel
theorem dX10_findBlocks_143 : decode cX10_findBlocks 143 = .ok (.ineg, 1) := by decide +kernel
theorem dX10_findBlocks_144 : decode cX10_findBlocks 144 = .ok (.iand, 1) := by decide +kernel
theorem dX10_findBlocks_145 : decode cX10_findBlocks 145 = .ok (.istore_n 3, 1) := by decide +kernel
theorem dX10_findBlocks_146 : decode cX10_findBlocks 146 = .ok (.iconst 0, 1) := by decide +kernel
theorem dX10_findBlocks_147 : decode cX10_findBlocks 147 = .ok (.istore 4, 2) := by decide +kernel
theorem dX10_findBlocks_149 : decode cX10_findBlocks 149 = .ok (.iconst 1, 1) := by decide +kernel
theorem dX10_findBlocks_150 : decode cX10_findBlocks 150 = .ok (.istore 5, 2) := by decide +kernel
theorem dX10_findBlocks_152 : decode cX10_findBlocks 152 = .ok (.iload 5, 2) := by decide +kernel
theorem dX10_findBlocks_154 : decode cX10_findBlocks 154 = .ok (.iload_n 2, 1) := by decide +kernel
theorem dX10_findBlocks_155 : decode cX10_findBlocks 155 = .ok (.if_icmp .gt 66, 3) := by decide +kernel
theorem dX10_findBlocks_158 : decode cX10_findBlocks 158 = .ok (.iload 4, 2) := by decide +kernel
theorem dX10_findBlocks_160 : decode cX10_findBlocks 160 = .ok (.ifCond .ne 61, 3) := by decide +kernel
theorem dX10_findBlocks_163 : decode cX10_findBlocks 163 = .ok (.iload 5, 2) := by decide +kernel
theorem dX10_findBlocks_165 : decode cX10_findBlocks 165 = .ok (.iload_n 2, 1) := by decide +kernel
theorem dX10_findBlocks_166 : decode cX10_findBlocks 166 = .ok (.iconst (-1), 1) := by decide +kernel
theorem dX10_findBlocks_167 : decode cX10_findBlocks 167 = .ok (.ixor, 1) := by decide +kernel
theorem dX10_findBlocks_168 : decode cX10_findBlocks 168 = .ok (.iand, 1) := by decide +kernel
theorem dX10_findBlocks_169 : decode cX10_findBlocks 169 = .ok (.ifCond .ne 46, 3) := by decide +kernel
theorem dX10_findBlocks_172 : decode cX10_findBlocks 172 = .ok (.iload 5, 2) := by decide +kernel
theorem dX10_findBlocks_174 : decode cX10_findBlocks 174 = .ok (.iload_n 3, 1) := by decide +kernel
theorem dX10_findBlocks_175 : decode cX10_findBlocks 175 = .ok (.iand, 1) := by decide +kernel
theorem dX10_findBlocks_176 : decode cX10_findBlocks 176 = .ok (.ifCond .eq 39, 3) := by decide +kernel
theorem dX10_findBlocks_179 : decode cX10_findBlocks 179 = .ok (.aload_n 0, 1) := by decide +kernel
theorem dX10_findBlocks_180 : decode cX10_findBlocks 180 = .ok (.getfield 60, 3) := by decide +kernel
theorem dX10_findBlocks_183 : decode cX10_findBlocks 183 = .ok (.iload 5, 2) := by decide +kernel
theorem dX10_findBlocks_185 : decode cX10_findBlocks 185 = .ok (.baload, 1) := by decide +kernel
theorem dX10_findBlocks_186 : decode cX10_findBlocks 186 = .ok (.ifCond .eq 29, 3) := by decide +kernel
theorem dX10_findBlocks_189 : decode cX10_findBlocks 189 = .ok (.iconst 1, 1) := by decide +kernel
theorem dX10_findBlocks_190 : decode cX10_findBlocks 190 = .ok (.aload_n 0, 1) := by decide +kernel
theorem dX10_findBlocks_191 : decode cX10_findBlocks 191 = .ok (.getfield 54, 3) := by decide +kernel
theorem dX10_findBlocks_194 : decode cX10_findBlocks 194 = .ok (.iload_n 2, 1) := by decide +kernel
theorem dX10_findBlocks_195 : decode cX10_findBlocks 195 = .ok (.iload 5, 2) := by decide +kernel
theorem dX10_findBlocks_197 : decode cX10_findBlocks 197 = .ok (.iconst (-1), 1) := by decide +kernel
theorem dX10_findBlocks_198 : decode cX10_findBlocks 198 = .ok (.ixor, 1) := by decide +kernel
theorem dX10_findBlocks_199 : decode cX10_findBlocks 199 = .ok (.iand, 1) := by decide +kernel
theorem dX10_findBlocks_200 : decode cX10_findBlocks 200 = .ok (.iaload, 1) := by decide +kernel
theorem dX10_findBlocks_201 : decode cX10_findBlocks 201 = .ok (.iadd, 1) := by decide +kernel
theorem dX10_findBlocks_202 : decode cX10_findBlocks 202 = .ok (.aload_n 0, 1) := by decide +kernel
theorem dX10_findBlocks_203 : decode cX10_findBlocks 203 = .ok (.getfield 54, 3) := by decide +kernel
theorem dX10_findBlocks_206 : decode cX10_findBlocks 206 = .ok (.iload_n 2, 1) := by decide +kernel
theorem dX10_findBlocks_207 : decode cX10_findBlocks 207 = .ok (.iaload, 1) := by decide +kernel
theorem dX10_findBlocks_208 : decode cX10_findBlocks 208 = .ok (.if_icmp .ne 7, 3) := by decide +kernel
theorem dX10_findBlocks_211 : decode cX10_findBlocks 211 = .ok (.iload 5, 2) := by decide +kernel
theorem dX10_findBlocks_213 : decode cX10_findBlocks 213 = .ok (.istore 4, 2) := by decide +kernel
theorem dX10_findBlocks_215 : decode cX10_findBlocks 215 = .ok (.iinc 5 1, 3) := by decide +kernel
theorem dX10_findBlocks_218 : decode cX10_findBlocks 218 = .ok (.goto (-66), 3) := by decide +kernel
theorem dX10_findBlocks_221 : decode cX10_findBlocks 221 = .ok (.iconst 0, 1) := by decide +kernel
theorem dX10_findBlocks_222 : decode cX10_findBlocks 222 = .ok (.istore 5, 2) := by decide +kernel
theorem dX10_findBlocks_224 : decode cX10_findBlocks 224 = .ok (.iload 5, 2) := by decide +kernel
theorem dX10_findBlocks_226 : decode cX10_findBlocks 226 = .ok (.aload_n 0, 1) := by decide +kernel
theorem dX10_findBlocks_227 : decode cX10_findBlocks 227 = .ok (.getfield 13, 3) := by decide +kernel
theorem dX10_findBlocks_230 : decode cX10_findBlocks 230 = .ok (.if_icmp .ge 29, 3) := by decide +kernel
theorem dX10_findBlocks_233 : decode cX10_findBlocks 233 = .ok (.iload 4, 2) := by decide +kernel
theorem dX10_findBlocks_235 : decode cX10_findBlocks 235 = .ok (.iload 5, 2) := by decide +kernel
theorem dX10_findBlocks_237 : decode cX10_findBlocks 237 = .ok (.ishr, 1) := by decide +kernel
theorem dX10_findBlocks_238 : decode cX10_findBlocks 238 = .ok (.iconst 1, 1) := by decide +kernel
theorem dX10_findBlocks_239 : decode cX10_findBlocks 239 = .ok (.iand, 1) := by decide +kernel
theorem dX10_findBlocks_240 : decode cX10_findBlocks 240 = .ok (.iconst 1, 1) := by decide +kernel
theorem dX10_findBlocks_241 : decode cX10_findBlocks 241 = .ok (.if_icmp .ne 12, 3) := by decide +kernel
theorem dX10_findBlocks_244 : decode cX10_findBlocks 244 = .ok (.aload_n 0, 1) := by decide +kernel
theorem dX10_findBlocks_245 : decode cX10_findBlocks 245 = .ok (.getfield 57, 3) := by decide +kernel
theorem dX10_findBlocks_248 : decode cX10_findBlocks 248 = .ok (.iload 5, 2) := by decide +kernel
theorem dX10_findBlocks_250 : decode cX10_findBlocks 250 = .ok (.iload 4, 2) := by decide +kernel
theorem dX10_findBlocks_252 : decode cX10_findBlocks 252 = .ok (.iastore, 1) := by decide +kernel
theorem dX10_findBlocks_253 : decode cX10_findBlocks 253 = .ok (.iinc 5 1, 3) := by decide +kernel
theorem dX10_findBlocks_256 : decode cX10_findBlocks 256 = .ok (.goto (-32), 3) := by decide +kernel
theorem dX10_findBlocks_259 : decode cX10_findBlocks 259 = .ok (.iload_n 2, 1) := by decide +kernel
theorem dX10_findBlocks_260 : decode cX10_findBlocks 260 = .ok (.iload 4, 2) := by decide +kernel
theorem dX10_findBlocks_262 : decode cX10_findBlocks 262 = .ok (.iconst (-1), 1) := by decide +kernel
theorem dX10_findBlocks_263 : decode cX10_findBlocks 263 = .ok (.ixor, 1) := by decide +kernel
theorem dX10_findBlocks_264 : decode cX10_findBlocks 264 = .ok (.iand, 1) := by decide +kernel
theorem dX10_findBlocks_265 : decode cX10_findBlocks 265 = .ok (.istore_n 2, 1) := by decide +kernel
theorem dX10_findBlocks_266 : decode cX10_findBlocks 266 = .ok (.goto (-129), 3) := by decide +kernel
theorem dX10_findBlocks_269 : decode cX10_findBlocks 269 = .ok (.return_, 1) := by decide +kernel
set_option maxRecDepth 20000 in
theorem ggX10_blocks_X10_findBlocks : GoodIn wsX10_blocks wsX10_findBlocks := goodIn_r _ [7, 1, 2, 8, 9, 10, 11, 12, 6, 13, 14, 15, 16, 17, 18, 19, 20, 21, 22, 23, 24, 25, 26, 27, 28, 29, 30, 31, 32, 33, 34, 35, 36, 37, 38, 39, 40, 41, 42, 43, 44, 45, 46, 47, 48, 49, 50] (by decide +kernel) (by decide +kernel)
set_option maxRecDepth 20000 in
theorem gX10_blocks_X10_findBlocks : GoodIn wsX10_blocks (wsV RX10 171 RX10 yX10_findBlocks wsX10_findBlocks) := goodIn_app (goodIn_of _ (by decide +kernel)) ggX10_blocks_X10_findBlocks
theorem dX10_blocks_0 : decode cX10_blocks 0 = .ok (.aload_n 0, 1) := by decide +kernel
theorem dX10_blocks_1 : decode cX10_blocks 1 = .ok (.getfield 13, 3) := by decide +kernel
theorem dX10_blocks_4 : decode cX10_blocks 4 = .ok (.ifCond .ne 6, 3) := by decide +kernel
theorem dX10_blocks_7 : decode cX10_blocks 7 = .ok (.bipush (-3), 2) := by decide +kernel
theorem dX10_blocks_9 : decode cX10_blocks 9 = .ok (.ireturn, 1) := by decide +kernel
theorem dX10_blocks_10 : decode cX10_blocks 10 = .ok (.aload_n 0, 1) := by decide +kernel
theorem dX10_blocks_11 : decode cX10_blocks 11 = .ok (.invokevirtual 171, 3) := by decide +kernel
theorem dX10_blocks_14 : decode cX10_blocks 14 = .ok (.aload_n 0, 1) := by decide +kernel
theorem dX10_blocks_15 : decode cX10_blocks 15 = .ok (.getfield 54, 3) := by decide +kernel
theorem dX10_blocks_18 : decode cX10_blocks 18 = .ok (.iconst 1, 1) := by decide +kernel
theorem dX10_blocks_19 : decode cX10_blocks 19 = .ok (.aload_n 0, 1) := by decide +kernel
theorem dX10_blocks_20 : decode cX10_blocks 20 = .ok (.getfield 13, 3) := by decide +kernel
theorem dX10_blocks_23 : decode cX10_blocks 23 = .ok (.ishl, 1) := by decide +kernel
theorem dX10_blocks_24 : decode cX10_blocks 24 = .ok (.iconst 1, 1) := by decide +kernel
theorem dX10_blocks_25 : decode cX10_blocks 25 = .ok (.isub, 1) := by decide +kernel
theorem dX10_blocks_26 : decode cX10_blocks 26 = .ok (.iaload, 1) := by decide +kernel
theorem dX10_blocks_27 : decode cX10_blocks 27 = .ok (.ireturn, 1) := by decide +kernel
set_option maxRecDepth 20000 in
theorem ggX10_of_X10_isMark : GoodIn wsX10_of wsX10_isMark := goodIn_r _ [6, 7, 8, 9, 10, 5, 11, 26, 27, 28, 29, 30, 31, 32, 33, 34, 35, 36, 37, 38, 39, 40, 41, 42, 43, 44, 45, 46, 47, 48, 49, 50, 51, 52, 53, 54, 55, 56, 57, 58] (by decide +kernel) (by decide +kernel)
set_option maxRecDepth 20000 in
theorem gX10_of_X10_isMark : GoodIn wsX10_of (wsV RX10 116 RX10 yX10_isMark wsX10_isMark) := goodIn_app (goodIn_of _ (by decide +kernel)) ggX10_of_X10_isMark
set_option maxRecDepth 20000 in
theorem ggX10_of_X10_findBlocks : GoodIn wsX10_of wsX10_findBlocks := goodIn_r _ [15, 7, 16, 17, 1, 18, 19, 20, 5, 21, 22, 23, 24, 25, 26, 27, 28, 29, 30, 31, 32, 33, 34, 35, 36, 37, 38, 39, 40, 41, 42, 43, 44, 45, 46, 47, 48, 49, 50, 51, 52, 53, 54, 55, 56, 57, 58] (by decide +kernel) (by decide +kernel)
set_option maxRecDepth 20000 in
theorem gX10_of_X10_findBlocks : GoodIn wsX10_of (wsV RX10 171 RX10 yX10_findBlocks wsX10_findBlocks) := goodIn_app (goodIn_of _ (by decide +kernel)) ggX10_of_X10_findBlocks
theorem dX10_of_0 : decode cX10_of 0 = .ok (.aload_n 0, 1) := by decide +kernel
theorem dX10_of_1 : decode cX10_of 1 = .ok (.iload_n 1, 1) := by decide +kernel
theorem dX10_of_2 : decode cX10_of 2 = .ok (.invokevirtual 116, 3) := by decide +kernel
theorem dX10_of_5 : decode cX10_of 5 = .ok (.ifCond .ne 5, 3) := by decide +kernel
theorem dX10_of_8 : decode cX10_of 8 = .ok (.iconst (-1), 1) := by decide +kernel
theorem dX10_of_9 : decode cX10_of 9 = .ok (.ireturn, 1) := by decide +kernel
theorem dX10_of_10 : decode cX10_of 10 = .ok (.aload_n 0, 1) := by decide +kernel
theorem dX10_of_11 : decode cX10_of 11 = .ok (.invokevirtual 171, 3) := by decide +kernel
theorem dX10_of_14 : decode cX10_of 14 = .ok (.aload_n 0, 1) := by decide +kernel
theorem dX10_of_15 : decode cX10_of 15 = .ok (.getfield 57, 3) := by decide +kernel
theorem dX10_of_18 : decode cX10_of 18 = .ok (.iload_n 1, 1) := by decide +kernel
theorem dX10_of_19 : decode cX10_of 19 = .ok (.iaload, 1) := by decide +kernel
theorem dX10_of_20 : decode cX10_of 20 = .ok (.ireturn, 1) := by decide +kernel
set_option maxRecDepth 20000 in
theorem ggX10_green_X10_isMark : GoodIn wsX10_green wsX10_isMark := goodIn_r _ [6, 7, 8, 9, 10, 5, 11, 12, 13, 14, 15, 16, 17, 18, 19, 20, 21, 22, 23, 24, 25, 26, 27, 28, 29, 30, 31, 32, 33, 34, 35, 36, 37, 38, 39, 40, 41, 42, 43, 44] (by decide +kernel) (by decide +kernel)
set_option maxRecDepth 20000 in
theorem gX10_green_X10_isMark : GoodIn wsX10_green (wsV RX10 116 RX10 yX10_isMark wsX10_isMark) := goodIn_app (goodIn_of _ (by decide +kernel)) ggX10_green_X10_isMark
set_option maxRecDepth 20000 in
theorem ggX10_green_X10_in : GoodIn wsX10_green wsX10_in := goodIn_r _ [11] (by decide +kernel) (by decide +kernel)
set_option maxRecDepth 20000 in
theorem gX10_green_X10_in : GoodIn wsX10_green (wsV RX10 112 RX10 yX10_in wsX10_in) := goodIn_app (goodIn_of _ (by decide +kernel)) ggX10_green_X10_in
theorem dX10_green_0 : decode cX10_green 0 = .ok (.aload_n 0, 1) := by decide +kernel
theorem dX10_green_1 : decode cX10_green 1 = .ok (.iload_n 1, 1) := by decide +kernel
theorem dX10_green_2 : decode cX10_green 2 = .ok (.invokevirtual 116, 3) := by decide +kernel
theorem dX10_green_5 : decode cX10_green 5 = .ok (.ifCond .eq 25, 3) := by decide +kernel
theorem dX10_green_8 : decode cX10_green 8 = .ok (.aload_n 0, 1) := by decide +kernel
theorem dX10_green_9 : decode cX10_green 9 = .ok (.iload_n 2, 1) := by decide +kernel
theorem dX10_green_10 : decode cX10_green 10 = .ok (.iconst 0, 1) := by decide +kernel
theorem dX10_green_11 : decode cX10_green 11 = .ok (.iconst 2, 1) := by decide +kernel
theorem dX10_green_12 : decode cX10_green 12 = .ok (.invokevirtual 112, 3) := by decide +kernel
theorem dX10_green_15 : decode cX10_green 15 = .ok (.ifCond .eq 15, 3) := by decide +kernel
theorem dX10_green_18 : decode cX10_green 18 = .ok (.aload_n 0, 1) := by decide +kernel
theorem dX10_green_19 : decode cX10_green 19 = .ok (.iload_n 3, 1) := by decide +kernel
theorem dX10_green_20 : decode cX10_green 20 = .ok (.bipush (-20), 2) := by decide +kernel
theorem dX10_green_22 : decode cX10_green 22 = .ok (.bipush 20, 2) := by decide +kernel
theorem dX10_green_24 : decode cX10_green 24 = .ok (.invokevirtual 112, 3) := by decide +kernel
theorem dX10_green_27 : decode cX10_green 27 = .ok (.ifCond .ne 7, 3) := by decide +kernel
theorem dX10_green_30 : decode cX10_green 30 = .ok (.sipush (-1001), 3) := by decide +kernel
theorem dX10_green_33 : decode cX10_green 33 = .ok (.ireturn, 1) := by decide +kernel
theorem dX10_green_34 : decode cX10_green 34 = .ok (.aload_n 0, 1) := by decide +kernel
theorem dX10_green_35 : decode cX10_green 35 = .ok (.getfield 66, 3) := by decide +kernel
theorem dX10_green_38 : decode cX10_green 38 = .ok (.iconst 3, 1) := by decide +kernel
theorem dX10_green_39 : decode cX10_green 39 = .ok (.iload_n 1, 1) := by decide +kernel
theorem dX10_green_40 : decode cX10_green 40 = .ok (.imul, 1) := by decide +kernel
theorem dX10_green_41 : decode cX10_green 41 = .ok (.iload_n 2, 1) := by decide +kernel
theorem dX10_green_42 : decode cX10_green 42 = .ok (.iadd, 1) := by decide +kernel
theorem dX10_green_43 : decode cX10_green 43 = .ok (.iaload, 1) := by decide +kernel
theorem dX10_green_44 : decode cX10_green 44 = .ok (.istore 4, 2) := by decide +kernel
theorem dX10_green_46 : decode cX10_green 46 = .ok (.aload_n 0, 1) := by decide +kernel
theorem dX10_green_47 : decode cX10_green 47 = .ok (.getfield 66, 3) := by decide +kernel
theorem dX10_green_50 : decode cX10_green 50 = .ok (.iconst 3, 1) := by decide +kernel
theorem dX10_green_51 : decode cX10_green 51 = .ok (.iload_n 1, 1) := by decide +kernel
theorem dX10_green_52 : decode cX10_green 52 = .ok (.imul, 1) := by decide +kernel
theorem dX10_green_53 : decode cX10_green 53 = .ok (.iload_n 2, 1) := by decide +kernel
theorem dX10_green_54 : decode cX10_green 54 = .ok (.iadd, 1) := by decide +kernel
theorem dX10_green_55 : decode cX10_green 55 = .ok (.iload_n 3, 1) := by decide +kernel
theorem dX10_green_56 : decode cX10_green 56 = .ok (.iastore, 1) := by decide +kernel
theorem dX10_green_57 : decode cX10_green 57 = .ok (.iload 4, 2) := by decide +kernel
theorem dX10_green_59 : decode cX10_green 59 = .ok (.ireturn, 1) := by decide +kernel
set_option maxRecDepth 20000 in
theorem ggX10_tolerance_X10_in : GoodIn wsX10_tolerance wsX10_in := goodIn_r _ [6] (by decide +kernel) (by decide +kernel)
set_option maxRecDepth 20000 in
theorem gX10_tolerance_X10_in : GoodIn wsX10_tolerance (wsV RX10 112 RX10 yX10_in wsX10_in) := goodIn_app (goodIn_of _ (by decide +kernel)) ggX10_tolerance_X10_in
theorem dX10_tolerance_0 : decode cX10_tolerance 0 = .ok (.aload_n 0, 1) := by decide +kernel
theorem dX10_tolerance_1 : decode cX10_tolerance 1 = .ok (.iload_n 1, 1) := by decide +kernel
theorem dX10_tolerance_2 : decode cX10_tolerance 2 = .ok (.iconst 0, 1) := by decide +kernel
theorem dX10_tolerance_3 : decode cX10_tolerance 3 = .ok (.bipush 100, 2) := by decide +kernel
theorem dX10_tolerance_5 : decode cX10_tolerance 5 = .ok (.invokevirtual 112, 3) := by decide +kernel
theorem dX10_tolerance_8 : decode cX10_tolerance 8 = .ok (.ifCond .ne 5, 3) := by decide +kernel
theorem dX10_tolerance_11 : decode cX10_tolerance 11 = .ok (.iconst (-1), 1) := by decide +kernel
theorem dX10_tolerance_12 : decode cX10_tolerance 12 = .ok (.ireturn, 1) := by decide +kernel
theorem dX10_tolerance_13 : decode cX10_tolerance 13 = .ok (.aload_n 0, 1) := by decide +kernel
theorem dX10_tolerance_14 : decode cX10_tolerance 14 = .ok (.getfield 63, 3) := by decide +kernel
theorem dX10_tolerance_17 : decode cX10_tolerance 17 = .ok (.istore_n 2, 1) := by decide +kernel
theorem dX10_tolerance_18 : decode cX10_tolerance 18 = .ok (.aload_n 0, 1) := by decide +kernel
theorem dX10_tolerance_19 : decode cX10_tolerance 19 = .ok (.iload_n 1, 1) := by decide +kernel
theorem dX10_tolerance_20 : decode cX10_tolerance 20 = .ok (.putfield 63, 3) := by decide +kernel
theorem dX10_tolerance_23 : decode cX10_tolerance 23 = .ok (.iload_n 2, 1) := by decide +kernel
theorem dX10_tolerance_24 : decode cX10_tolerance 24 = .ok (.ireturn, 1) := by decide +kernel
set_option maxRecDepth 20000 in
theorem ggX10_doFit_X10_in : GoodIn wsX10_doFit wsX10_in := goodIn_r _ [9] (by decide +kernel) (by decide +kernel)
set_option maxRecDepth 20000 in
theorem gX10_doFit_X10_in : GoodIn wsX10_doFit (wsV RX10 112 RX10 yX10_in wsX10_in) := goodIn_app (goodIn_of _ (by decide +kernel)) ggX10_doFit_X10_in
theorem dX10_doFit_0 : decode cX10_doFit 0 = .ok (.iconst 1, 1) := by decide +kernel
theorem dX10_doFit_1 : decode cX10_doFit 1 = .ok (.istore 4, 2) := by decide +kernel
theorem dX10_doFit_3 : decode cX10_doFit 3 = .ok (.iconst 0, 1) := by decide +kernel
theorem dX10_doFit_4 : decode cX10_doFit 4 = .ok (.istore 5, 2) := by decide +kernel
theorem dX10_doFit_6 : decode cX10_doFit 6 = .ok (.iload 5, 2) := by decide +kernel
theorem dX10_doFit_8 : decode cX10_doFit 8 = .ok (.aload_n 0, 1) := by decide +kernel
theorem dX10_doFit_9 : decode cX10_doFit 9 = .ok (.getfield 13, 3) := by decide +kernel
theorem dX10_doFit_12 : decode cX10_doFit 12 = .ok (.if_icmp .ge 84, 3) := by decide +kernel
theorem dX10_doFit_15 : decode cX10_doFit 15 = .ok (.iload 4, 2) := by decide +kernel
theorem dX10_doFit_17 : decode cX10_doFit 17 = .ok (.ifCond .eq 70, 3) := by decide +kernel
theorem dX10_doFit_20 : decode cX10_doFit 20 = .ok (.aload_n 0, 1) := by decide +kernel
theorem dX10_doFit_21 : decode cX10_doFit 21 = .ok (.aload_n 0, 1) := by decide +kernel
theorem dX10_doFit_22 : decode cX10_doFit 22 = .ok (.getfield 66, 3) := by decide +kernel
theorem dX10_doFit_25 : decode cX10_doFit 25 = .ok (.iconst 3, 1) := by decide +kernel
theorem dX10_doFit_26 : decode cX10_doFit 26 = .ok (.iload 5, 2) := by decide +kernel
theorem dX10_doFit_28 : decode cX10_doFit 28 = .ok (.imul, 1) := by decide +kernel
theorem dX10_doFit_29 : decode cX10_doFit 29 = .ok (.iaload, 1) := by decide +kernel
theorem dX10_doFit_30 : decode cX10_doFit 30 = .ok (.iload_n 1, 1) := by decide +kernel
theorem dX10_doFit_31 : decode cX10_doFit 31 = .ok (.imul, 1) := by decide +kernel
theorem dX10_doFit_32 : decode cX10_doFit 32 = .ok (.aload_n 0, 1) := by decide +kernel
theorem dX10_doFit_33 : decode cX10_doFit 33 = .ok (.getfield 66, 3) := by decide +kernel
theorem dX10_doFit_36 : decode cX10_doFit 36 = .ok (.iconst 3, 1) := by decide +kernel
theorem dX10_doFit_37 : decode cX10_doFit 37 = .ok (.iload 5, 2) := by decide +kernel
theorem dX10_doFit_39 : decode cX10_doFit 39 = .ok (.imul, 1) := by decide +kernel
theorem dX10_doFit_40 : decode cX10_doFit 40 = .ok (.iconst 1, 1) := by decide +kernel
theorem dX10_doFit_41 : decode cX10_doFit 41 = .ok (.iadd, 1) := by decide +kernel
theorem dX10_doFit_42 : decode cX10_doFit 42 = .ok (.iaload, 1) := by decide +kernel
theorem dX10_doFit_43 : decode cX10_doFit 43 = .ok (.iload_n 2, 1) := by decide +kernel
theorem dX10_doFit_44 : decode cX10_doFit 44 = .ok (.imul, 1) := by decide +kernel
theorem dX10_doFit_45 : decode cX10_doFit 45 = .ok (.iadd, 1) := by decide +kernel
theorem dX10_doFit_46 : decode cX10_doFit 46 = .ok (.aload_n 0, 1) := by decide +kernel
theorem dX10_doFit_47 : decode cX10_doFit 47 = .ok (.getfield 66, 3) := by decide +kernel
theorem dX10_doFit_50 : decode cX10_doFit 50 = .ok (.iconst 3, 1) := by decide +kernel
theorem dX10_doFit_51 : decode cX10_doFit 51 = .ok (.iload 5, 2) := by decide +kernel
theorem dX10_doFit_53 : decode cX10_doFit 53 = .ok (.imul, 1) := by decide +kernel
theorem dX10_doFit_54 : decode cX10_doFit 54 = .ok (.iconst 2, 1) := by decide +kernel
theorem dX10_doFit_55 : decode cX10_doFit 55 = .ok (.iadd, 1) := by decide +kernel
theorem dX10_doFit_56 : decode cX10_doFit 56 = .ok (.iaload, 1) := by decide +kernel
theorem dX10_doFit_57 : decode cX10_doFit 57 = .ok (.iload_n 3, 1) := by decide +kernel
theorem dX10_doFit_58 : decode cX10_doFit 58 = .ok (.imul, 1) := by decide +kernel
theorem dX10_doFit_59 : decode cX10_doFit 59 = .ok (.iadd, 1) := by decide +kernel
theorem dX10_doFit_60 : decode cX10_doFit 60 = .ok (.aload_n 0, 1) := by decide +kernel
theorem dX10_doFit_61 : decode cX10_doFit 61 = .ok (.getfield 48, 3) := by decide +kernel
theorem dX10_doFit_64 : decode cX10_doFit 64 = .ok (.iload 5, 2) := by decide +kernel
theorem dX10_doFit_66 : decode cX10_doFit 66 = .ok (.iaload, 1) := by decide +kernel
theorem dX10_doFit_67 : decode cX10_doFit 67 = .ok (.isub, 1) := by decide +kernel
theorem dX10_doFit_68 : decode cX10_doFit 68 = .ok (.aload_n 0, 1) := by decide +kernel
theorem dX10_doFit_69 : decode cX10_doFit 69 = .ok (.getfield 63, 3) := by decide +kernel
theorem dX10_doFit_72 : decode cX10_doFit 72 = .ok (.ineg, 1) := by decide +kernel
theorem dX10_doFit_73 : decode cX10_doFit 73 = .ok (.aload_n 0, 1) := by decide +kernel
theorem dX10_doFit_74 : decode cX10_doFit 74 = .ok (.getfield 63, 3) := by decide +kernel
theorem dX10_doFit_77 : decode cX10_doFit 77 = .ok (.invokevirtual 112, 3) := by decide +kernel
theorem dX10_doFit_80 : decode cX10_doFit 80 = .ok (.ifCond .eq 7, 3) := by decide +kernel
theorem dX10_doFit_83 : decode cX10_doFit 83 = .ok (.iconst 1, 1) := by decide +kernel
theorem dX10_doFit_84 : decode cX10_doFit 84 = .ok (.goto 4, 3) := by decide +kernel
theorem dX10_doFit_87 : decode cX10_doFit 87 = .ok (.iconst 0, 1) := by decide +kernel
theorem dX10_doFit_88 : decode cX10_doFit 88 = .ok (.istore 4, 2) := by decide +kernel
theorem dX10_doFit_90 : decode cX10_doFit 90 = .ok (.iinc 5 1, 3) := by decide +kernel
theorem dX10_doFit_93 : decode cX10_doFit 93 = .ok (.goto (-87), 3) := by decide +kernel
theorem dX10_doFit_96 : decode cX10_doFit 96 = .ok (.iload 4, 2) := by decide +kernel
theorem dX10_doFit_98 : decode cX10_doFit 98 = .ok (.ireturn, 1) := by decide +kernel
set_option maxRecDepth 20000 in
theorem ggX10_findSlips_X10_doFit : GoodIn wsX10_findSlips wsX10_doFit := goodIn_r _ [8, 9, 10, 11, 12, 13, 14, 15, 7, 16, 17, 18, 19, 20, 21, 22, 23, 24, 25, 26, 27, 28, 29, 30, 31, 32, 33, 34, 35, 36, 37, 38, 39, 40, 41, 42, 43, 44, 45, 46, 47, 48, 49] (by decide +kernel) (by decide +kernel)
set_option maxRecDepth 20000 in
theorem gX10_findSlips_X10_doFit : GoodIn wsX10_findSlips (wsV RX10 174 RX10 yX10_doFit wsX10_doFit) := goodIn_app (goodIn_of _ (by decide +kernel)) ggX10_findSlips_X10_doFit
theorem dX10_findSlips_0 : decode cX10_findSlips 0 = .ok (.aload_n 0, 1) := by decide +kernel
theorem dX10_findSlips_1 : decode cX10_findSlips 1 = .ok (.iconst 0, 1) := by decide +kernel
theorem dX10_findSlips_2 : decode cX10_findSlips 2 = .ok (.putfield 69, 3) := by decide +kernel
theorem dX10_findSlips_5 : decode cX10_findSlips 5 = .ok (.iconst 0, 1) := by decide +kernel
theorem dX10_findSlips_6 : decode cX10_findSlips 6 = .ok (.istore_n 1, 1) := by decide +kernel
theorem dX10_findSlips_7 : decode cX10_findSlips 7 = .ok (.iload_n 1, 1) := by decide +kernel
theorem dX10_findSlips_8 : decode cX10_findSlips 8 = .ok (.iconst 3, 1) := by decide +kernel
theorem dX10_findSlips_9 : decode cX10_findSlips 9 = .ok (.if_icmp .ge 24, 3) := by decide +kernel
theorem dX10_findSlips_12 : decode cX10_findSlips 12 = .ok (.aload_n 0, 1) := by decide +kernel
theorem dX10_findSlips_13 : decode cX10_findSlips 13 = .ok (.getfield 72, 3) := by decide +kernel
theorem dX10_findSlips_16 : decode cX10_findSlips 16 = .ok (.iload_n 1, 1) := by decide +kernel
theorem dX10_findSlips_17 : decode cX10_findSlips 17 = .ok (.bipush 16, 2) := by decide +kernel
theorem dX10_findSlips_19 : decode cX10_findSlips 19 = .ok (.iastore, 1) := by decide +kernel
theorem dX10_findSlips_20 : decode cX10_findSlips 20 = .ok (.aload_n 0, 1) := by decide +kernel
theorem dX10_findSlips_21 : decode cX10_findSlips 21 = .ok (.getfield 75, 3) := by decide +kernel
theorem dX10_findSlips_24 : decode cX10_findSlips 24 = .ok (.iload_n 1, 1) := by decide +kernel
theorem dX10_findSlips_25 : decode cX10_findSlips 25 = .ok (.iconst (-1), 1) := by decide +kernel
theorem dX10_findSlips_26 : decode cX10_findSlips 26 = .ok (.iastore, 1) := by decide +kernel
theorem dX10_findSlips_27 : decode cX10_findSlips 27 = .ok (.iinc 1 1, 3) := by decide +kernel
theorem dX10_findSlips_30 : decode cX10_findSlips 30 = .ok (.goto (-23), 3) := by decide +kernel
theorem dX10_findSlips_33 : decode cX10_findSlips 33 = .ok (.iconst 0, 1) := by decide +kernel
theorem dX10_findSlips_34 : decode cX10_findSlips 34 = .ok (.istore_n 1, 1) := by decide +kernel
theorem dX10_findSlips_35 : decode cX10_findSlips 35 = .ok (.iload_n 1, 1) := by decide +kernel
theorem dX10_findSlips_36 : decode cX10_findSlips 36 = .ok (.sipush 4096, 3) := by decide +kernel
theorem dX10_findSlips_39 : decode cX10_findSlips 39 = .ok (.if_icmp .ge 120, 3) := by decide +kernel
theorem dX10_findSlips_42 : decode cX10_findSlips 42 = .ok (.aload_n 0, 1) := by decide +kernel
theorem dX10_findSlips_43 : decode cX10_findSlips 43 = .ok (.iload_n 1, 1) := by decide +kernel
theorem dX10_findSlips_44 : decode cX10_findSlips 44 = .ok (.bipush 8, 2) := by decide +kernel
theorem dX10_findSlips_46 : decode cX10_findSlips 46 = .ok (.ishr, 1) := by decide +kernel
theorem dX10_findSlips_47 : decode cX10_findSlips 47 = .ok (.iload_n 1, 1) := by decide +kernel
theorem dX10_findSlips_48 : decode cX10_findSlips 48 = .ok (.iconst 4, 1) := by decide +kernel
theorem dX10_findSlips_49 : decode cX10_findSlips 49 = .ok (.ishr, 1) := by decide +kernel
theorem dX10_findSlips_50 : decode cX10_findSlips 50 = .ok (.bipush 15, 2) := by decide +kernel
theorem dX10_findSlips_52 : decode cX10_findSlips 52 = .ok (.iand, 1) := by decide +kernel
theorem dX10_findSlips_53 : decode cX10_findSlips 53 = .ok (.iload_n 1, 1) := by decide +kernel
theorem dX10_findSlips_54 : decode cX10_findSlips 54 = .ok (.bipush 15, 2) := by decide +kernel
theorem dX10_findSlips_56 : decode cX10_findSlips 56 = .ok (.iand, 1) := by decide +kernel
theorem dX10_findSlips_57 : decode cX10_findSlips 57 = .ok (.invokevirtual 174, 3) := by decide +kernel
theorem dX10_findSlips_60 : decode cX10_findSlips 60 = .ok (.ifCond .ne 6, 3) := by decide +kernel
theorem dX10_findSlips_63 : decode cX10_findSlips 63 = .ok (.goto 90, 3) := by decide +kernel
theorem dX10_findSlips_66 : decode cX10_findSlips 66 = .ok (.aload_n 0, 1) := by decide +kernel
theorem dX10_findSlips_67 : decode cX10_findSlips 67 = .ok (.dup, 1) := by decide +kernel
theorem dX10_findSlips_68 : decode cX10_findSlips 68 = .ok (.getfield 69, 3) := by decide +kernel
theorem dX10_findSlips_71 : decode cX10_findSlips 71 = .ok (.iconst 1, 1) := by decide +kernel
theorem dX10_findSlips_72 : decode cX10_findSlips 72 = .ok (.iadd, 1) := by decide +kernel
theorem dX10_findSlips_73 : decode cX10_findSlips 73 = .ok (.putfield 69, 3) := by decide +kernel
theorem dX10_findSlips_76 : decode cX10_findSlips 76 = .ok (.iconst 0, 1) := by decide +kernel
theorem dX10_findSlips_77 : decode cX10_findSlips 77 = .ok (.istore_n 2, 1) := by decide +kernel
theorem dX10_findSlips_78 : decode cX10_findSlips 78 = .ok (.iload_n 2, 1) := by decide +kernel
theorem dX10_findSlips_79 : decode cX10_findSlips 79 = .ok (.iconst 3, 1) := by decide +kernel
theorem dX10_findSlips_80 : decode cX10_findSlips 80 = .ok (.if_icmp .ge 73, 3) := by decide +kernel
theorem dX10_findSlips_83 : decode cX10_findSlips 83 = .ok (.iload_n 1, 1) := by decide +kernel
theorem dX10_findSlips_84 : decode cX10_findSlips 84 = .ok (.bipush 8, 2) := by decide +kernel
theorem dX10_findSlips_86 : decode cX10_findSlips 86 = .ok (.iconst 4, 1) := by decide +kernel
theorem dX10_findSlips_87 : decode cX10_findSlips 87 = .ok (.iload_n 2, 1) := by decide +kernel
theorem dX10_findSlips_88 : decode cX10_findSlips 88 = .ok (.imul, 1) := by decide +kernel
theorem dX10_findSlips_89 : decode cX10_findSlips 89 = .ok (.isub, 1) := by decide +kernel
theorem dX10_findSlips_90 : decode cX10_findSlips 90 = .ok (.ishr, 1) := by decide +kernel
theorem dX10_findSlips_91 : decode cX10_findSlips 91 = .ok (.bipush 15, 2) := by decide +kernel
theorem dX10_findSlips_93 : decode cX10_findSlips 93 = .ok (.iand, 1) := by decide +kernel
theorem dX10_findSlips_94 : decode cX10_findSlips 94 = .ok (.istore_n 3, 1) := by decide +kernel
theorem dX10_findSlips_95 : decode cX10_findSlips 95 = .ok (.aload_n 0, 1) := by decide +kernel
theorem dX10_findSlips_96 : decode cX10_findSlips 96 = .ok (.getfield 72, 3) := by decide +kernel
theorem dX10_findSlips_99 : decode cX10_findSlips 99 = .ok (.iload_n 2, 1) := by decide +kernel
theorem dX10_findSlips_100 : decode cX10_findSlips 100 = .ok (.iload_n 3, 1) := by decide +kernel
theorem dX10_findSlips_101 : decode cX10_findSlips 101 = .ok (.aload_n 0, 1) := by decide +kernel
theorem dX10_findSlips_102 : decode cX10_findSlips 102 = .ok (.getfield 72, 3) := by decide +kernel
theorem dX10_findSlips_105 : decode cX10_findSlips 105 = .ok (.iload_n 2, 1) := by decide +kernel
theorem dX10_findSlips_106 : decode cX10_findSlips 106 = .ok (.iaload, 1) := by decide +kernel
theorem dX10_findSlips_107 : decode cX10_findSlips 107 = .ok (.if_icmp .ge 7, 3) := by decide +kernel
theorem dX10_findSlips_110 : decode cX10_findSlips 110 = .ok (.iload_n 3, 1) := by decide +kernel
theorem dX10_findSlips_111 : decode cX10_findSlips 111 = .ok (.goto 9, 3) := by decide +kernel
theorem dX10_findSlips_114 : decode cX10_findSlips 114 = .ok (.aload_n 0, 1) := by decide +kernel
theorem dX10_findSlips_115 : decode cX10_findSlips 115 = .ok (.getfield 72, 3) := by decide +kernel
theorem dX10_findSlips_118 : decode cX10_findSlips 118 = .ok (.iload_n 2, 1) := by decide +kernel
theorem dX10_findSlips_119 : decode cX10_findSlips 119 = .ok (.iaload, 1) := by decide +kernel
theorem dX10_findSlips_120 : decode cX10_findSlips 120 = .ok (.iastore, 1) := by decide +kernel
theorem dX10_findSlips_121 : decode cX10_findSlips 121 = .ok (.aload_n 0, 1) := by decide +kernel
theorem dX10_findSlips_122 : decode cX10_findSlips 122 = .ok (.getfield 75, 3) := by decide +kernel
theorem dX10_findSlips_125 : decode cX10_findSlips 125 = .ok (.iload_n 2, 1) := by decide +kernel
theorem dX10_findSlips_126 : decode cX10_findSlips 126 = .ok (.iload_n 3, 1) := by decide +kernel
theorem dX10_findSlips_127 : decode cX10_findSlips 127 = .ok (.aload_n 0, 1) := by decide +kernel
theorem dX10_findSlips_128 : decode cX10_findSlips 128 = .ok (.getfield 75, 3) := by decide +kernel
theorem dX10_findSlips_131 : decode cX10_findSlips 131 = .ok (.iload_n 2, 1) := by decide +kernel
theorem dX10_findSlips_132 : decode cX10_findSlips 132 = .ok (.iaload, 1) := by decide +kernel
theorem dX10_findSlips_133 : decode cX10_findSlips 133 = .ok (.if_icmp .le 7, 3) := by decide +kernel
theorem dX10_findSlips_136 : decode cX10_findSlips 136 = .ok (.iload_n 3, 1) := by decide +kernel
theorem dX10_findSlips_137 : decode cX10_findSlips 137 = .ok (.goto 9, 3) := by decide +kernel
theorem dX10_findSlips_140 : decode cX10_findSlips 140 = .ok (.aload_n 0, 1) := by decide +kernel
theorem dX10_findSlips_141 : decode cX10_findSlips 141 = .ok (.getfield 75, 3) := by decide +kernel
theorem dX10_findSlips_144 : decode cX10_findSlips 144 = .ok (.iload_n 2, 1) := by decide +kernel
theorem dX10_findSlips_145 : decode cX10_findSlips 145 = .ok (.iaload, 1) := by decide +kernel
theorem dX10_findSlips_146 : decode cX10_findSlips 146 = .ok (.iastore, 1) := by decide +kernel
theorem dX10_findSlips_147 : decode cX10_findSlips 147 = .ok (.iinc 2 1, 3) := by decide +kernel
theorem dX10_findSlips_150 : decode cX10_findSlips 150 = .ok (.goto (-72), 3) := by decide +kernel
theorem dX10_findSlips_153 : decode cX10_findSlips 153 = .ok (.iinc 1 1, 3) := by decide +kernel
theorem dX10_findSlips_156 : decode cX10_findSlips 156 = .ok (.goto (-121), 3) := by decide +kernel
theorem dX10_findSlips_159 : decode cX10_findSlips 159 = .ok (.return_, 1) := by decide +kernel
set_option maxRecDepth 20000 in
theorem ggX10_fits_X10_findSlips : GoodIn wsX10_fits wsX10_findSlips := goodIn_r _ [6, 1, 7, 8, 9, 10, 11, 5, 12, 13, 14, 15, 16, 17, 18, 19, 20, 21, 22, 23, 24, 25, 26, 27, 28, 29, 30, 31, 32, 33, 34, 35, 36, 37, 38, 39, 40, 41, 42, 43, 44, 45, 46, 47, 48, 49, 50, 51, 52, 53] (by decide +kernel) (by decide +kernel)
set_option maxRecDepth 20000 in
theorem gX10_fits_X10_findSlips : GoodIn wsX10_fits (wsV RX10 177 RX10 yX10_findSlips wsX10_findSlips) := goodIn_app (goodIn_of _ (by decide +kernel)) ggX10_fits_X10_findSlips
theorem dX10_fits_0 : decode cX10_fits 0 = .ok (.aload_n 0, 1) := by decide +kernel
theorem dX10_fits_1 : decode cX10_fits 1 = .ok (.invokevirtual 177, 3) := by decide +kernel
theorem dX10_fits_4 : decode cX10_fits 4 = .ok (.aload_n 0, 1) := by decide +kernel
theorem dX10_fits_5 : decode cX10_fits 5 = .ok (.getfield 69, 3) := by decide +kernel
theorem dX10_fits_8 : decode cX10_fits 8 = .ok (.ireturn, 1) := by decide +kernel
set_option maxRecDepth 20000 in
theorem ggX10_slip_X10_in : GoodIn wsX10_slip wsX10_in := goodIn_r _ [8] (by decide +kernel) (by decide +kernel)
set_option maxRecDepth 20000 in
theorem gX10_slip_X10_in : GoodIn wsX10_slip (wsV RX10 112 RX10 yX10_in wsX10_in) := goodIn_app (goodIn_of _ (by decide +kernel)) ggX10_slip_X10_in
set_option maxRecDepth 20000 in
theorem ggX10_slip_X10_findSlips : GoodIn wsX10_slip wsX10_findSlips := goodIn_r _ [12, 1, 3, 2, 13, 14, 15, 7, 16, 17, 18, 19, 20, 4, 5, 6, 8, 21, 22, 23, 24, 25, 26, 27, 28, 29, 30, 31, 32, 33, 34, 35, 36, 37, 38, 39, 40, 41, 42, 43, 44, 45, 46, 47, 48, 49, 50, 51, 52, 53] (by decide +kernel) (by decide +kernel)
set_option maxRecDepth 20000 in
theorem gX10_slip_X10_findSlips : GoodIn wsX10_slip (wsV RX10 177 RX10 yX10_findSlips wsX10_findSlips) := goodIn_app (goodIn_of _ (by decide +kernel)) ggX10_slip_X10_findSlips
theorem dX10_slip_0 : decode cX10_slip 0 = .ok (.aload_n 0, 1) := by decide +kernel
theorem dX10_slip_1 : decode cX10_slip 1 = .ok (.iload_n 1, 1) := by decide +kernel
theorem dX10_slip_2 : decode cX10_slip 2 = .ok (.iconst 0, 1) := by decide +kernel
theorem dX10_slip_3 : decode cX10_slip 3 = .ok (.iconst 2, 1) := by decide +kernel
theorem dX10_slip_4 : decode cX10_slip 4 = .ok (.invokevirtual 112, 3) := by decide +kernel
theorem dX10_slip_7 : decode cX10_slip 7 = .ok (.ifCond .ne 5, 3) := by decide +kernel
theorem dX10_slip_10 : decode cX10_slip 10 = .ok (.iconst (-1), 1) := by decide +kernel
theorem dX10_slip_11 : decode cX10_slip 11 = .ok (.ireturn, 1) := by decide +kernel
theorem dX10_slip_12 : decode cX10_slip 12 = .ok (.aload_n 0, 1) := by decide +kernel
theorem dX10_slip_13 : decode cX10_slip 13 = .ok (.invokevirtual 177, 3) := by decide +kernel
theorem dX10_slip_16 : decode cX10_slip 16 = .ok (.aload_n 0, 1) := by decide +kernel
theorem dX10_slip_17 : decode cX10_slip 17 = .ok (.getfield 69, 3) := by decide +kernel
theorem dX10_slip_20 : decode cX10_slip 20 = .ok (.ifCond .ne 8, 3) := by decide +kernel
theorem dX10_slip_23 : decode cX10_slip 23 = .ok (.bipush (-4), 2) := by decide +kernel
theorem dX10_slip_25 : decode cX10_slip 25 = .ok (.goto 22, 3) := by decide +kernel
theorem dX10_slip_28 : decode cX10_slip 28 = .ok (.iload_n 2, 1) := by decide +kernel
theorem dX10_slip_29 : decode cX10_slip 29 = .ok (.ifCond .eq 12, 3) := by decide +kernel
theorem dX10_slip_32 : decode cX10_slip 32 = .ok (.aload_n 0, 1) := by decide +kernel
theorem dX10_slip_33 : decode cX10_slip 33 = .ok (.getfield 75, 3) := by decide +kernel
theorem dX10_slip_36 : decode cX10_slip 36 = .ok (.iload_n 1, 1) := by decide +kernel
theorem dX10_slip_37 : decode cX10_slip 37 = .ok (.iaload, 1) := by decide +kernel
theorem dX10_slip_38 : decode cX10_slip 38 = .ok (.goto 9, 3) := by decide +kernel
theorem dX10_slip_41 : decode cX10_slip 41 = .ok (.aload_n 0, 1) := by decide +kernel
theorem dX10_slip_42 : decode cX10_slip 42 = .ok (.getfield 72, 3) := by decide +kernel
theorem dX10_slip_45 : decode cX10_slip 45 = .ok (.iload_n 1, 1) := by decide +kernel
theorem dX10_slip_46 : decode cX10_slip 46 = .ok (.iaload, 1) := by decide +kernel
theorem dX10_slip_47 : decode cX10_slip 47 = .ok (.ireturn, 1) := by decide +kernel
set_option maxRecDepth 20000 in
theorem ggX10_locked_X10_findSlips : GoodIn wsX10_locked wsX10_findSlips := goodIn_r _ [7, 1, 8, 2, 9, 10, 11, 6, 12, 13, 14, 15, 16, 17, 18, 19, 20, 21, 22, 23, 24, 25, 26, 27, 28, 29, 30, 31, 32, 33, 34, 35, 36, 37, 38, 39, 40, 41, 42, 43, 44, 45, 46, 47, 48, 49, 50, 51, 52, 53] (by decide +kernel) (by decide +kernel)
set_option maxRecDepth 20000 in
theorem gX10_locked_X10_findSlips : GoodIn wsX10_locked (wsV RX10 177 RX10 yX10_findSlips wsX10_findSlips) := goodIn_app (goodIn_of _ (by decide +kernel)) ggX10_locked_X10_findSlips
theorem dX10_locked_0 : decode cX10_locked 0 = .ok (.aload_n 0, 1) := by decide +kernel
theorem dX10_locked_1 : decode cX10_locked 1 = .ok (.invokevirtual 177, 3) := by decide +kernel
theorem dX10_locked_4 : decode cX10_locked 4 = .ok (.aload_n 0, 1) := by decide +kernel
theorem dX10_locked_5 : decode cX10_locked 5 = .ok (.getfield 69, 3) := by decide +kernel
theorem dX10_locked_8 : decode cX10_locked 8 = .ok (.ifCond .ne 6, 3) := by decide +kernel
theorem dX10_locked_11 : decode cX10_locked 11 = .ok (.bipush (-4), 2) := by decide +kernel
theorem dX10_locked_13 : decode cX10_locked 13 = .ok (.ireturn, 1) := by decide +kernel
theorem dX10_locked_14 : decode cX10_locked 14 = .ok (.iconst 0, 1) := by decide +kernel
theorem dX10_locked_15 : decode cX10_locked 15 = .ok (.istore_n 1, 1) := by decide +kernel
theorem dX10_locked_16 : decode cX10_locked 16 = .ok (.iconst 0, 1) := by decide +kernel
theorem dX10_locked_17 : decode cX10_locked 17 = .ok (.istore_n 2, 1) := by decide +kernel
theorem dX10_locked_18 : decode cX10_locked 18 = .ok (.iload_n 2, 1) := by decide +kernel
theorem dX10_locked_19 : decode cX10_locked 19 = .ok (.iconst 3, 1) := by decide +kernel
theorem dX10_locked_20 : decode cX10_locked 20 = .ok (.if_icmp .ge 28, 3) := by decide +kernel
theorem dX10_locked_23 : decode cX10_locked 23 = .ok (.iload_n 1, 1) := by decide +kernel
theorem dX10_locked_24 : decode cX10_locked 24 = .ok (.aload_n 0, 1) := by decide +kernel
theorem dX10_locked_25 : decode cX10_locked 25 = .ok (.getfield 75, 3) := by decide +kernel
theorem dX10_locked_28 : decode cX10_locked 28 = .ok (.iload_n 2, 1) := by decide +kernel
theorem dX10_locked_29 : decode cX10_locked 29 = .ok (.iaload, 1) := by decide +kernel
theorem dX10_locked_30 : decode cX10_locked 30 = .ok (.ifCond .ne 9, 3) := by decide +kernel
theorem dX10_locked_33 : decode cX10_locked 33 = .ok (.iconst 1, 1) := by decide +kernel
theorem dX10_locked_34 : decode cX10_locked 34 = .ok (.iload_n 2, 1) := by decide +kernel
theorem dX10_locked_35 : decode cX10_locked 35 = .ok (.ishl, 1) := by decide +kernel
theorem dX10_locked_36 : decode cX10_locked 36 = .ok (.goto 4, 3) := by decide +kernel
theorem dX10_locked_39 : decode cX10_locked 39 = .ok (.iconst 0, 1) := by decide +kernel
theorem dX10_locked_40 : decode cX10_locked 40 = .ok (.ior, 1) := by decide +kernel
theorem dX10_locked_41 : decode cX10_locked 41 = .ok (.istore_n 1, 1) := by decide +kernel
theorem dX10_locked_42 : decode cX10_locked 42 = .ok (.iinc 2 1, 3) := by decide +kernel
theorem dX10_locked_45 : decode cX10_locked 45 = .ok (.goto (-27), 3) := by decide +kernel
theorem dX10_locked_48 : decode cX10_locked 48 = .ok (.iload_n 1, 1) := by decide +kernel
theorem dX10_locked_49 : decode cX10_locked 49 = .ok (.ireturn, 1) := by decide +kernel
set_option maxRecDepth 20000 in
theorem ggX10_line_X10_isMark : GoodIn wsX10_line wsX10_isMark := goodIn_r _ [9, 10, 11, 12, 13, 8, 14, 15, 16, 17, 18, 19, 20, 21, 22, 23, 24, 25, 26, 27, 28, 29, 30, 31, 32, 33, 34, 35, 36, 37, 38, 39, 40, 41, 42, 43, 44, 45, 46, 47] (by decide +kernel) (by decide +kernel)
set_option maxRecDepth 20000 in
theorem gX10_line_X10_isMark : GoodIn wsX10_line (wsV RX10 116 RX10 yX10_isMark wsX10_isMark) := goodIn_app (goodIn_of _ (by decide +kernel)) ggX10_line_X10_isMark
set_option maxRecDepth 20000 in
theorem ggX10_line_X10_in : GoodIn wsX10_line wsX10_in := goodIn_r _ [14] (by decide +kernel) (by decide +kernel)
set_option maxRecDepth 20000 in
theorem gX10_line_X10_in : GoodIn wsX10_line (wsV RX10 112 RX10 yX10_in wsX10_in) := goodIn_app (goodIn_of _ (by decide +kernel)) ggX10_line_X10_in
theorem dX10_line_0 : decode cX10_line 0 = .ok (.aload_n 0, 1) := by decide +kernel
theorem dX10_line_1 : decode cX10_line 1 = .ok (.iload_n 1, 1) := by decide +kernel
theorem dX10_line_2 : decode cX10_line 2 = .ok (.invokevirtual 116, 3) := by decide +kernel
theorem dX10_line_5 : decode cX10_line 5 = .ok (.ifCond .eq 30, 3) := by decide +kernel
theorem dX10_line_8 : decode cX10_line 8 = .ok (.aload_n 0, 1) := by decide +kernel
theorem dX10_line_9 : decode cX10_line 9 = .ok (.iload_n 2, 1) := by decide +kernel
theorem dX10_line_10 : decode cX10_line 10 = .ok (.invokevirtual 116, 3) := by decide +kernel
theorem dX10_line_13 : decode cX10_line 13 = .ok (.ifCond .eq 22, 3) := by decide +kernel
theorem dX10_line_16 : decode cX10_line 16 = .ok (.iload_n 1, 1) := by decide +kernel
theorem dX10_line_17 : decode cX10_line 17 = .ok (.iload_n 2, 1) := by decide +kernel
theorem dX10_line_18 : decode cX10_line 18 = .ok (.if_icmp .eq 17, 3) := by decide +kernel
theorem dX10_line_21 : decode cX10_line 21 = .ok (.aload_n 0, 1) := by decide +kernel
theorem dX10_line_22 : decode cX10_line 22 = .ok (.iload_n 3, 1) := by decide +kernel
theorem dX10_line_23 : decode cX10_line 23 = .ok (.sipush (-10000), 3) := by decide +kernel
theorem dX10_line_26 : decode cX10_line 26 = .ok (.sipush 10000, 3) := by decide +kernel
theorem dX10_line_29 : decode cX10_line 29 = .ok (.invokevirtual 112, 3) := by decide +kernel
theorem dX10_line_32 : decode cX10_line 32 = .ok (.ifCond .ne 5, 3) := by decide +kernel
theorem dX10_line_35 : decode cX10_line 35 = .ok (.iconst (-1), 1) := by decide +kernel
theorem dX10_line_36 : decode cX10_line 36 = .ok (.ireturn, 1) := by decide +kernel
theorem dX10_line_37 : decode cX10_line 37 = .ok (.aload_n 0, 1) := by decide +kernel
theorem dX10_line_38 : decode cX10_line 38 = .ok (.getfield 78, 3) := by decide +kernel
theorem dX10_line_41 : decode cX10_line 41 = .ok (.bipush 14, 2) := by decide +kernel
theorem dX10_line_43 : decode cX10_line 43 = .ok (.if_icmp .ne 6, 3) := by decide +kernel
theorem dX10_line_46 : decode cX10_line 46 = .ok (.bipush (-2), 2) := by decide +kernel
theorem dX10_line_48 : decode cX10_line 48 = .ok (.ireturn, 1) := by decide +kernel
theorem dX10_line_49 : decode cX10_line 49 = .ok (.aload_n 0, 1) := by decide +kernel
theorem dX10_line_50 : decode cX10_line 50 = .ok (.getfield 81, 3) := by decide +kernel
theorem dX10_line_53 : decode cX10_line 53 = .ok (.aload_n 0, 1) := by decide +kernel
theorem dX10_line_54 : decode cX10_line 54 = .ok (.getfield 78, 3) := by decide +kernel
theorem dX10_line_57 : decode cX10_line 57 = .ok (.iload_n 1, 1) := by decide +kernel
theorem dX10_line_58 : decode cX10_line 58 = .ok (.iastore, 1) := by decide +kernel
theorem dX10_line_59 : decode cX10_line 59 = .ok (.aload_n 0, 1) := by decide +kernel
theorem dX10_line_60 : decode cX10_line 60 = .ok (.getfield 84, 3) := by decide +kernel
theorem dX10_line_63 : decode cX10_line 63 = .ok (.aload_n 0, 1) := by decide +kernel
theorem dX10_line_64 : decode cX10_line 64 = .ok (.getfield 78, 3) := by decide +kernel
theorem dX10_line_67 : decode cX10_line 67 = .ok (.iload_n 2, 1) := by decide +kernel
theorem dX10_line_68 : decode cX10_line 68 = .ok (.iastore, 1) := by decide +kernel
theorem dX10_line_69 : decode cX10_line 69 = .ok (.aload_n 0, 1) := by decide +kernel
theorem dX10_line_70 : decode cX10_line 70 = .ok (.getfield 87, 3) := by decide +kernel
theorem dX10_line_73 : decode cX10_line 73 = .ok (.aload_n 0, 1) := by decide +kernel
theorem dX10_line_74 : decode cX10_line 74 = .ok (.getfield 78, 3) := by decide +kernel
theorem dX10_line_77 : decode cX10_line 77 = .ok (.iload_n 3, 1) := by decide +kernel
theorem dX10_line_78 : decode cX10_line 78 = .ok (.iastore, 1) := by decide +kernel
theorem dX10_line_79 : decode cX10_line 79 = .ok (.aload_n 0, 1) := by decide +kernel
theorem dX10_line_80 : decode cX10_line 80 = .ok (.dup, 1) := by decide +kernel
theorem dX10_line_81 : decode cX10_line 81 = .ok (.getfield 78, 3) := by decide +kernel
theorem dX10_line_84 : decode cX10_line 84 = .ok (.iconst 1, 1) := by decide +kernel
theorem dX10_line_85 : decode cX10_line 85 = .ok (.iadd, 1) := by decide +kernel
theorem dX10_line_86 : decode cX10_line 86 = .ok (.putfield 78, 3) := by decide +kernel
theorem dX10_line_89 : decode cX10_line 89 = .ok (.aload_n 0, 1) := by decide +kernel
theorem dX10_line_90 : decode cX10_line 90 = .ok (.getfield 78, 3) := by decide +kernel
theorem dX10_line_93 : decode cX10_line 93 = .ok (.iconst 1, 1) := by decide +kernel
theorem dX10_line_94 : decode cX10_line 94 = .ok (.isub, 1) := by decide +kernel
theorem dX10_line_95 : decode cX10_line 95 = .ok (.ireturn, 1) := by decide +kernel
theorem dX10_unline_0 : decode cX10_unline 0 = .ok (.aload_n 0, 1) := by decide +kernel
theorem dX10_unline_1 : decode cX10_unline 1 = .ok (.getfield 78, 3) := by decide +kernel
theorem dX10_unline_4 : decode cX10_unline 4 = .ok (.ifCond .ne 6, 3) := by decide +kernel
theorem dX10_unline_7 : decode cX10_unline 7 = .ok (.bipush (-3), 2) := by decide +kernel
theorem dX10_unline_9 : decode cX10_unline 9 = .ok (.ireturn, 1) := by decide +kernel
theorem dX10_unline_10 : decode cX10_unline 10 = .ok (.aload_n 0, 1) := by decide +kernel
theorem dX10_unline_11 : decode cX10_unline 11 = .ok (.dup, 1) := by decide +kernel
theorem dX10_unline_12 : decode cX10_unline 12 = .ok (.getfield 78, 3) := by decide +kernel
theorem dX10_unline_15 : decode cX10_unline 15 = .ok (.iconst 1, 1) := by decide +kernel
theorem dX10_unline_16 : decode cX10_unline 16 = .ok (.isub, 1) := by decide +kernel
theorem dX10_unline_17 : decode cX10_unline 17 = .ok (.putfield 78, 3) := by decide +kernel
theorem dX10_unline_20 : decode cX10_unline 20 = .ok (.aload_n 0, 1) := by decide +kernel
theorem dX10_unline_21 : decode cX10_unline 21 = .ok (.getfield 78, 3) := by decide +kernel
theorem dX10_unline_24 : decode cX10_unline 24 = .ok (.ireturn, 1) := by decide +kernel
theorem dX10_agree_0 : decode cX10_agree 0 = .ok (.iconst 0, 1) := by decide +kernel
theorem dX10_agree_1 : decode cX10_agree 1 = .ok (.istore_n 2, 1) := by decide +kernel
theorem dX10_agree_2 : decode cX10_agree 2 = .ok (.iload_n 2, 1) := by decide +kernel
theorem dX10_agree_3 : decode cX10_agree 3 = .ok (.aload_n 0, 1) := by decide +kernel
theorem dX10_agree_4 : decode cX10_agree 4 = .ok (.getfield 13, 3) := by decide +kernel
theorem dX10_agree_7 : decode cX10_agree 7 = .ok (.if_icmp .ge 23, 3) := by decide +kernel
theorem dX10_agree_10 : decode cX10_agree 10 = .ok (.aload_n 0, 1) := by decide +kernel
theorem dX10_agree_11 : decode cX10_agree 11 = .ok (.getfield 90, 3) := by decide +kernel
theorem dX10_agree_14 : decode cX10_agree 14 = .ok (.iload_n 2, 1) := by decide +kernel
theorem dX10_agree_15 : decode cX10_agree 15 = .ok (.iload_n 2, 1) := by decide +kernel
theorem dX10_agree_16 : decode cX10_agree 16 = .ok (.iastore, 1) := by decide +kernel
theorem dX10_agree_17 : decode cX10_agree 17 = .ok (.aload_n 0, 1) := by decide +kernel
theorem dX10_agree_18 : decode cX10_agree 18 = .ok (.getfield 93, 3) := by decide +kernel
theorem dX10_agree_21 : decode cX10_agree 21 = .ok (.iload_n 2, 1) := by decide +kernel
theorem dX10_agree_22 : decode cX10_agree 22 = .ok (.lconst 0, 1) := by decide +kernel
theorem dX10_agree_23 : decode cX10_agree 23 = .ok (.lastore, 1) := by decide +kernel
theorem dX10_agree_24 : decode cX10_agree 24 = .ok (.iinc 2 1, 3) := by decide +kernel
end
section
theorem dX10_agree_27 : decode cX10_agree 27 = .ok (.goto (-25), 3) := by decide +kernel
theorem dX10_agree_30 : decode cX10_agree 30 = .ok (.iconst 0, 1) := by decide +kernel
theorem dX10_agree_31 : decode cX10_agree 31 = .ok (.istore_n 2, 1) := by decide +kernel
theorem dX10_agree_32 : decode cX10_agree 32 = .ok (.iload_n 2, 1) := by decide +kernel
theorem dX10_agree_33 : decode cX10_agree 33 = .ok (.aload_n 0, 1) := by decide +kernel
theorem dX10_agree_34 : decode cX10_agree 34 = .ok (.getfield 78, 3) := by decide +kernel
theorem dX10_agree_37 : decode cX10_agree 37 = .ok (.if_icmp .ge 165, 3) := by decide +kernel
theorem dX10_agree_40 : decode cX10_agree 40 = .ok (.iload_n 1, 1) := by decide +kernel
theorem dX10_agree_41 : decode cX10_agree 41 = .ok (.iload_n 2, 1) := by decide +kernel
theorem dX10_agree_42 : decode cX10_agree 42 = .ok (.ishr, 1) := by decide +kernel
theorem dX10_agree_43 : decode cX10_agree 43 = .ok (.iconst 1, 1) := by decide +kernel
theorem dX10_agree_44 : decode cX10_agree 44 = .ok (.iand, 1) := by decide +kernel
theorem dX10_agree_45 : decode cX10_agree 45 = .ok (.iconst 1, 1) := by decide +kernel
theorem dX10_agree_46 : decode cX10_agree 46 = .ok (.if_icmp .ne 6, 3) := by decide +kernel
theorem dX10_agree_49 : decode cX10_agree 49 = .ok (.goto 147, 3) := by decide +kernel
theorem dX10_agree_52 : decode cX10_agree 52 = .ok (.aload_n 0, 1) := by decide +kernel
theorem dX10_agree_53 : decode cX10_agree 53 = .ok (.getfield 93, 3) := by decide +kernel
theorem dX10_agree_56 : decode cX10_agree 56 = .ok (.aload_n 0, 1) := by decide +kernel
theorem dX10_agree_57 : decode cX10_agree 57 = .ok (.getfield 81, 3) := by decide +kernel
theorem dX10_agree_60 : decode cX10_agree 60 = .ok (.iload_n 2, 1) := by decide +kernel
theorem dX10_agree_61 : decode cX10_agree 61 = .ok (.iaload, 1) := by decide +kernel
theorem dX10_agree_62 : decode cX10_agree 62 = .ok (.laload, 1) := by decide +kernel
theorem dX10_agree_63 : decode cX10_agree 63 = .ok (.aload_n 0, 1) := by decide +kernel
theorem dX10_agree_64 : decode cX10_agree 64 = .ok (.getfield 87, 3) := by decide +kernel
theorem dX10_agree_67 : decode cX10_agree 67 = .ok (.iload_n 2, 1) := by decide +kernel
theorem dX10_agree_68 : decode cX10_agree 68 = .ok (.iaload, 1) := by decide +kernel
theorem dX10_agree_69 : decode cX10_agree 69 = .ok (.i2l, 1) := by decide +kernel
theorem dX10_agree_70 : decode cX10_agree 70 = .ok (.ladd, 1) := by decide +kernel
theorem dX10_agree_71 : decode cX10_agree 71 = .ok (.aload_n 0, 1) := by decide +kernel
theorem dX10_agree_72 : decode cX10_agree 72 = .ok (.getfield 93, 3) := by decide +kernel
theorem dX10_agree_75 : decode cX10_agree 75 = .ok (.aload_n 0, 1) := by decide +kernel
theorem dX10_agree_76 : decode cX10_agree 76 = .ok (.getfield 84, 3) := by decide +kernel
theorem dX10_agree_79 : decode cX10_agree 79 = .ok (.iload_n 2, 1) := by decide +kernel
theorem dX10_agree_80 : decode cX10_agree 80 = .ok (.iaload, 1) := by decide +kernel
theorem dX10_agree_81 : decode cX10_agree 81 = .ok (.laload, 1) := by decide +kernel
theorem dX10_agree_82 : decode cX10_agree 82 = .ok (.lsub, 1) := by decide +kernel
theorem dX10_agree_83 : decode cX10_agree 83 = .ok (.lstore_n 3, 1) := by decide +kernel
theorem dX10_agree_84 : decode cX10_agree 84 = .ok (.aload_n 0, 1) := by decide +kernel
theorem dX10_agree_85 : decode cX10_agree 85 = .ok (.getfield 90, 3) := by decide +kernel
theorem dX10_agree_88 : decode cX10_agree 88 = .ok (.aload_n 0, 1) := by decide +kernel
theorem dX10_agree_89 : decode cX10_agree 89 = .ok (.getfield 81, 3) := by decide +kernel
theorem dX10_agree_92 : decode cX10_agree 92 = .ok (.iload_n 2, 1) := by decide +kernel
theorem dX10_agree_93 : decode cX10_agree 93 = .ok (.iaload, 1) := by decide +kernel
theorem dX10_agree_94 : decode cX10_agree 94 = .ok (.iaload, 1) := by decide +kernel
theorem dX10_agree_95 : decode cX10_agree 95 = .ok (.aload_n 0, 1) := by decide +kernel
theorem dX10_agree_96 : decode cX10_agree 96 = .ok (.getfield 90, 3) := by decide +kernel
theorem dX10_agree_99 : decode cX10_agree 99 = .ok (.aload_n 0, 1) := by decide +kernel
theorem dX10_agree_100 : decode cX10_agree 100 = .ok (.getfield 84, 3) := by decide +kernel
theorem dX10_agree_103 : decode cX10_agree 103 = .ok (.iload_n 2, 1) := by decide +kernel
theorem dX10_agree_104 : decode cX10_agree 104 = .ok (.iaload, 1) := by decide +kernel
theorem dX10_agree_105 : decode cX10_agree 105 = .ok (.iaload, 1) := by decide +kernel
theorem dX10_agree_106 : decode cX10_agree 106 = .ok (.if_icmp .ne 11, 3) := by decide +kernel
theorem dX10_agree_109 : decode cX10_agree 109 = .ok (.lload_n 3, 1) := by decide +kernel
theorem dX10_agree_110 : decode cX10_agree 110 = .ok (.lconst 0, 1) := by decide +kernel
theorem dX10_agree_111 : decode cX10_agree 111 = .ok (.lcmp, 1) := by decide +kernel
theorem dX10_agree_112 : decode cX10_agree 112 = .ok (.ifCond .eq 84, 3) := by decide +kernel
theorem dX10_agree_115 : decode cX10_agree 115 = .ok (.iconst 0, 1) := by decide +kernel
theorem dX10_agree_116 : decode cX10_agree 116 = .ok (.ireturn, 1) := by decide +kernel
theorem dX10_agree_117 : decode cX10_agree 117 = .ok (.aload_n 0, 1) := by decide +kernel
theorem dX10_agree_118 : decode cX10_agree 118 = .ok (.getfield 90, 3) := by decide +kernel
theorem dX10_agree_121 : decode cX10_agree 121 = .ok (.aload_n 0, 1) := by decide +kernel
theorem dX10_agree_122 : decode cX10_agree 122 = .ok (.getfield 84, 3) := by decide +kernel
theorem dX10_agree_125 : decode cX10_agree 125 = .ok (.iload_n 2, 1) := by decide +kernel
theorem dX10_agree_126 : decode cX10_agree 126 = .ok (.iaload, 1) := by decide +kernel
theorem dX10_agree_127 : decode cX10_agree 127 = .ok (.iaload, 1) := by decide +kernel
theorem dX10_agree_128 : decode cX10_agree 128 = .ok (.istore 5, 2) := by decide +kernel
theorem dX10_agree_130 : decode cX10_agree 130 = .ok (.aload_n 0, 1) := by decide +kernel
theorem dX10_agree_131 : decode cX10_agree 131 = .ok (.getfield 90, 3) := by decide +kernel
theorem dX10_agree_134 : decode cX10_agree 134 = .ok (.aload_n 0, 1) := by decide +kernel
theorem dX10_agree_135 : decode cX10_agree 135 = .ok (.getfield 81, 3) := by decide +kernel
theorem dX10_agree_138 : decode cX10_agree 138 = .ok (.iload_n 2, 1) := by decide +kernel
theorem dX10_agree_139 : decode cX10_agree 139 = .ok (.iaload, 1) := by decide +kernel
theorem dX10_agree_140 : decode cX10_agree 140 = .ok (.iaload, 1) := by decide +kernel
theorem dX10_agree_141 : decode cX10_agree 141 = .ok (.istore 6, 2) := by decide +kernel
theorem dX10_agree_143 : decode cX10_agree 143 = .ok (.iconst 0, 1) := by decide +kernel
theorem dX10_agree_144 : decode cX10_agree 144 = .ok (.istore 7, 2) := by decide +kernel
theorem dX10_agree_146 : decode cX10_agree 146 = .ok (.iload 7, 2) := by decide +kernel
theorem dX10_agree_148 : decode cX10_agree 148 = .ok (.aload_n 0, 1) := by decide +kernel
theorem dX10_agree_149 : decode cX10_agree 149 = .ok (.getfield 13, 3) := by decide +kernel
theorem dX10_agree_152 : decode cX10_agree 152 = .ok (.if_icmp .ge 44, 3) := by decide +kernel
theorem dX10_agree_155 : decode cX10_agree 155 = .ok (.aload_n 0, 1) := by decide +kernel
theorem dX10_agree_156 : decode cX10_agree 156 = .ok (.getfield 90, 3) := by decide +kernel
theorem dX10_agree_159 : decode cX10_agree 159 = .ok (.iload 7, 2) := by decide +kernel
theorem dX10_agree_161 : decode cX10_agree 161 = .ok (.iaload, 1) := by decide +kernel
theorem dX10_agree_162 : decode cX10_agree 162 = .ok (.iload 5, 2) := by decide +kernel
theorem dX10_agree_164 : decode cX10_agree 164 = .ok (.if_icmp .eq 6, 3) := by decide +kernel
theorem dX10_agree_167 : decode cX10_agree 167 = .ok (.goto 23, 3) := by decide +kernel
theorem dX10_agree_170 : decode cX10_agree 170 = .ok (.aload_n 0, 1) := by decide +kernel
theorem dX10_agree_171 : decode cX10_agree 171 = .ok (.getfield 90, 3) := by decide +kernel
theorem dX10_agree_174 : decode cX10_agree 174 = .ok (.iload 7, 2) := by decide +kernel
theorem dX10_agree_176 : decode cX10_agree 176 = .ok (.iload 6, 2) := by decide +kernel
theorem dX10_agree_178 : decode cX10_agree 178 = .ok (.iastore, 1) := by decide +kernel
theorem dX10_agree_179 : decode cX10_agree 179 = .ok (.aload_n 0, 1) := by decide +kernel
theorem dX10_agree_180 : decode cX10_agree 180 = .ok (.getfield 93, 3) := by decide +kernel
theorem dX10_agree_183 : decode cX10_agree 183 = .ok (.iload 7, 2) := by decide +kernel
theorem dX10_agree_185 : decode cX10_agree 185 = .ok (.dup2, 1) := by decide +kernel
theorem dX10_agree_186 : decode cX10_agree 186 = .ok (.laload, 1) := by decide +kernel
theorem dX10_agree_187 : decode cX10_agree 187 = .ok (.lload_n 3, 1) := by decide +kernel
theorem dX10_agree_188 : decode cX10_agree 188 = .ok (.ladd, 1) := by decide +kernel
theorem dX10_agree_189 : decode cX10_agree 189 = .ok (.lastore, 1) := by decide +kernel
theorem dX10_agree_190 : decode cX10_agree 190 = .ok (.iinc 7 1, 3) := by decide +kernel
theorem dX10_agree_193 : decode cX10_agree 193 = .ok (.goto (-47), 3) := by decide +kernel
theorem dX10_agree_196 : decode cX10_agree 196 = .ok (.iinc 2 1, 3) := by decide +kernel
theorem dX10_agree_199 : decode cX10_agree 199 = .ok (.goto (-167), 3) := by decide +kernel
theorem dX10_agree_202 : decode cX10_agree 202 = .ok (.iconst 1, 1) := by decide +kernel
theorem dX10_agree_203 : decode cX10_agree 203 = .ok (.ireturn, 1) := by decide +kernel
theorem dX10_ones_0 : decode cX10_ones 0 = .ok (.iconst 0, 1) := by decide +kernel
theorem dX10_ones_1 : decode cX10_ones 1 = .ok (.istore_n 2, 1) := by decide +kernel
theorem dX10_ones_2 : decode cX10_ones 2 = .ok (.iconst 0, 1) := by decide +kernel
theorem dX10_ones_3 : decode cX10_ones 3 = .ok (.istore_n 3, 1) := by decide +kernel
theorem dX10_ones_4 : decode cX10_ones 4 = .ok (.iload_n 3, 1) := by decide +kernel
theorem dX10_ones_5 : decode cX10_ones 5 = .ok (.bipush 14, 2) := by decide +kernel
theorem dX10_ones_7 : decode cX10_ones 7 = .ok (.if_icmp .ge 17, 3) := by decide +kernel
theorem dX10_ones_10 : decode cX10_ones 10 = .ok (.iload_n 2, 1) := by decide +kernel
theorem dX10_ones_11 : decode cX10_ones 11 = .ok (.iload_n 1, 1) := by decide +kernel
theorem dX10_ones_12 : decode cX10_ones 12 = .ok (.iload_n 3, 1) := by decide +kernel
theorem dX10_ones_13 : decode cX10_ones 13 = .ok (.ishr, 1) := by decide +kernel
theorem dX10_ones_14 : decode cX10_ones 14 = .ok (.iconst 1, 1) := by decide +kernel
theorem dX10_ones_15 : decode cX10_ones 15 = .ok (.iand, 1) := by decide +kernel
theorem dX10_ones_16 : decode cX10_ones 16 = .ok (.iadd, 1) := by decide +kernel
theorem dX10_ones_17 : decode cX10_ones 17 = .ok (.istore_n 2, 1) := by decide +kernel
theorem dX10_ones_18 : decode cX10_ones 18 = .ok (.iinc 3 1, 3) := by decide +kernel
theorem dX10_ones_21 : decode cX10_ones 21 = .ok (.goto (-17), 3) := by decide +kernel
theorem dX10_ones_24 : decode cX10_ones 24 = .ok (.iload_n 2, 1) := by decide +kernel
theorem dX10_ones_25 : decode cX10_ones 25 = .ok (.ireturn, 1) := by decide +kernel
set_option maxRecDepth 20000 in
theorem ggX10_findWrong_X10_ones : GoodIn wsX10_findWrong wsX10_ones := goodIn_r _ [6] (by decide +kernel) (by decide +kernel)
set_option maxRecDepth 20000 in
theorem gX10_findWrong_X10_ones : GoodIn wsX10_findWrong (wsV RX10 180 RX10 yX10_ones wsX10_ones) := goodIn_app (goodIn_of _ (by decide +kernel)) ggX10_findWrong_X10_ones
set_option maxRecDepth 20000 in
theorem ggX10_findWrong_X10_agree : GoodIn wsX10_findWrong wsX10_agree := goodIn_r _ [10, 11, 12, 13, 1, 14, 15, 16, 17, 18, 19, 20, 21, 22, 23, 24, 25, 26, 27, 28, 29, 30, 31, 32, 33, 34, 35, 36, 37, 38, 39, 40, 41, 42, 43, 44, 45, 46, 47, 48, 49] (by decide +kernel) (by decide +kernel)
set_option maxRecDepth 20000 in
theorem gX10_findWrong_X10_agree : GoodIn wsX10_findWrong (wsV RX10 183 RX10 yX10_agree wsX10_agree) := goodIn_app (goodIn_of _ (by decide +kernel)) ggX10_findWrong_X10_agree
theorem dX10_findWrong_0 : decode cX10_findWrong 0 = .ok (.iconst 0, 1) := by decide +kernel
theorem dX10_findWrong_1 : decode cX10_findWrong 1 = .ok (.istore_n 1, 1) := by decide +kernel
theorem dX10_findWrong_2 : decode cX10_findWrong 2 = .ok (.bipush 15, 2) := by decide +kernel
theorem dX10_findWrong_4 : decode cX10_findWrong 4 = .ok (.istore_n 2, 1) := by decide +kernel
theorem dX10_findWrong_5 : decode cX10_findWrong 5 = .ok (.iconst 0, 1) := by decide +kernel
theorem dX10_findWrong_6 : decode cX10_findWrong 6 = .ok (.istore_n 3, 1) := by decide +kernel
theorem dX10_findWrong_7 : decode cX10_findWrong 7 = .ok (.iload_n 3, 1) := by decide +kernel
theorem dX10_findWrong_8 : decode cX10_findWrong 8 = .ok (.iconst 1, 1) := by decide +kernel
theorem dX10_findWrong_9 : decode cX10_findWrong 9 = .ok (.aload_n 0, 1) := by decide +kernel
theorem dX10_findWrong_10 : decode cX10_findWrong 10 = .ok (.getfield 78, 3) := by decide +kernel
theorem dX10_findWrong_13 : decode cX10_findWrong 13 = .ok (.ishl, 1) := by decide +kernel
theorem dX10_findWrong_14 : decode cX10_findWrong 14 = .ok (.if_icmp .ge 37, 3) := by decide +kernel
theorem dX10_findWrong_17 : decode cX10_findWrong 17 = .ok (.aload_n 0, 1) := by decide +kernel
theorem dX10_findWrong_18 : decode cX10_findWrong 18 = .ok (.iload_n 3, 1) := by decide +kernel
theorem dX10_findWrong_19 : decode cX10_findWrong 19 = .ok (.invokevirtual 180, 3) := by decide +kernel
theorem dX10_findWrong_22 : decode cX10_findWrong 22 = .ok (.iload_n 2, 1) := by decide +kernel
theorem dX10_findWrong_23 : decode cX10_findWrong 23 = .ok (.if_icmp .ge 22, 3) := by decide +kernel
theorem dX10_findWrong_26 : decode cX10_findWrong 26 = .ok (.aload_n 0, 1) := by decide +kernel
theorem dX10_findWrong_27 : decode cX10_findWrong 27 = .ok (.iload_n 3, 1) := by decide +kernel
theorem dX10_findWrong_28 : decode cX10_findWrong 28 = .ok (.invokevirtual 183, 3) := by decide +kernel
theorem dX10_findWrong_31 : decode cX10_findWrong 31 = .ok (.ifCond .ne 6, 3) := by decide +kernel
theorem dX10_findWrong_34 : decode cX10_findWrong 34 = .ok (.goto 11, 3) := by decide +kernel
theorem dX10_findWrong_37 : decode cX10_findWrong 37 = .ok (.aload_n 0, 1) := by decide +kernel
theorem dX10_findWrong_38 : decode cX10_findWrong 38 = .ok (.iload_n 3, 1) := by decide +kernel
theorem dX10_findWrong_39 : decode cX10_findWrong 39 = .ok (.invokevirtual 180, 3) := by decide +kernel
theorem dX10_findWrong_42 : decode cX10_findWrong 42 = .ok (.istore_n 2, 1) := by decide +kernel
theorem dX10_findWrong_43 : decode cX10_findWrong 43 = .ok (.iload_n 3, 1) := by decide +kernel
theorem dX10_findWrong_44 : decode cX10_findWrong 44 = .ok (.istore_n 1, 1) := by decide +kernel
theorem dX10_findWrong_45 : decode cX10_findWrong 45 = .ok (.iinc 3 1, 3) := by decide +kernel
theorem dX10_findWrong_48 : decode cX10_findWrong 48 = .ok (.goto (-41), 3) := by decide +kernel
theorem dX10_findWrong_51 : decode cX10_findWrong 51 = .ok (.iload_n 1, 1) := by decide +kernel
theorem dX10_findWrong_52 : decode cX10_findWrong 52 = .ok (.ireturn, 1) := by decide +kernel
set_option maxRecDepth 20000 in
theorem ggX10_wrong_X10_findWrong : GoodIn wsX10_wrong wsX10_findWrong := goodIn_r _ [5, 6, 7, 8, 9, 4, 10, 11, 12, 13, 14, 15, 16, 17, 18, 19, 20, 21, 22, 23, 24, 25, 26, 27, 28, 29, 30, 31, 32, 33, 34, 35, 36, 37, 38, 39, 40, 41, 42, 43, 44, 45, 46, 47, 48, 49, 50, 51, 52, 53] (by decide +kernel) (by decide +kernel)
set_option maxRecDepth 20000 in
theorem gX10_wrong_X10_findWrong : GoodIn wsX10_wrong (wsV RX10 186 RX10 yX10_findWrong wsX10_findWrong) := goodIn_app (goodIn_of _ (by decide +kernel)) ggX10_wrong_X10_findWrong
set_option maxRecDepth 20000 in
theorem ggX10_wrong_X10_ones : GoodIn wsX10_wrong wsX10_ones := goodIn_r _ [10] (by decide +kernel) (by decide +kernel)
set_option maxRecDepth 20000 in
theorem gX10_wrong_X10_ones : GoodIn wsX10_wrong (wsV RX10 180 RX10 yX10_ones wsX10_ones) := goodIn_app (goodIn_of _ (by decide +kernel)) ggX10_wrong_X10_ones
theorem dX10_wrong_0 : decode cX10_wrong 0 = .ok (.iload_n 1, 1) := by decide +kernel
theorem dX10_wrong_1 : decode cX10_wrong 1 = .ok (.ifCond .ne 14, 3) := by decide +kernel
theorem dX10_wrong_4 : decode cX10_wrong 4 = .ok (.aload_n 0, 1) := by decide +kernel
theorem dX10_wrong_5 : decode cX10_wrong 5 = .ok (.aload_n 0, 1) := by decide +kernel
theorem dX10_wrong_6 : decode cX10_wrong 6 = .ok (.invokevirtual 186, 3) := by decide +kernel
theorem dX10_wrong_9 : decode cX10_wrong 9 = .ok (.invokevirtual 180, 3) := by decide +kernel
theorem dX10_wrong_12 : decode cX10_wrong 12 = .ok (.goto 16, 3) := by decide +kernel
theorem dX10_wrong_15 : decode cX10_wrong 15 = .ok (.iload_n 1, 1) := by decide +kernel
theorem dX10_wrong_16 : decode cX10_wrong 16 = .ok (.iconst 1, 1) := by decide +kernel
theorem dX10_wrong_17 : decode cX10_wrong 17 = .ok (.if_icmp .ne 10, 3) := by decide +kernel
theorem dX10_wrong_20 : decode cX10_wrong 20 = .ok (.aload_n 0, 1) := by decide +kernel
theorem dX10_wrong_21 : decode cX10_wrong 21 = .ok (.invokevirtual 186, 3) := by decide +kernel
theorem dX10_wrong_24 : decode cX10_wrong 24 = .ok (.goto 4, 3) := by decide +kernel
theorem dX10_wrong_27 : decode cX10_wrong 27 = .ok (.iconst (-1), 1) := by decide +kernel
theorem dX10_wrong_28 : decode cX10_wrong 28 = .ok (.ireturn, 1) := by decide +kernel
set_option maxRecDepth 20000 in
theorem ggX10_height_X10_isMark : GoodIn wsX10_height wsX10_isMark := goodIn_r _ [8, 9, 10, 11, 12, 7, 13, 30, 31, 32, 33, 34, 35, 36, 37, 38, 39, 40, 41, 42, 43, 44, 45, 46, 47, 48, 49, 50, 51, 52, 53, 54, 55, 56, 57, 58, 59, 60, 61, 62] (by decide +kernel) (by decide +kernel)
set_option maxRecDepth 20000 in
theorem gX10_height_X10_isMark : GoodIn wsX10_height (wsV RX10 116 RX10 yX10_isMark wsX10_isMark) := goodIn_app (goodIn_of _ (by decide +kernel)) ggX10_height_X10_isMark
set_option maxRecDepth 20000 in
theorem ggX10_height_X10_findWrong : GoodIn wsX10_height wsX10_findWrong := goodIn_r _ [17, 18, 19, 20, 21, 7, 22, 23, 24, 25, 26, 9, 2, 3, 27, 28, 29, 30, 31, 32, 33, 34, 35, 36, 37, 38, 39, 40, 41, 42, 43, 44, 45, 46, 47, 48, 49, 50, 51, 52, 53, 54, 55, 56, 57, 58, 59, 60, 61, 62] (by decide +kernel) (by decide +kernel)
set_option maxRecDepth 20000 in
theorem gX10_height_X10_findWrong : GoodIn wsX10_height (wsV RX10 186 RX10 yX10_findWrong wsX10_findWrong) := goodIn_app (goodIn_of _ (by decide +kernel)) ggX10_height_X10_findWrong
set_option maxRecDepth 20000 in
theorem ggX10_height_X10_agree : GoodIn wsX10_height wsX10_agree := goodIn_r _ [26, 9, 2, 3, 18, 27, 28, 29, 30, 31, 32, 33, 34, 35, 36, 37, 38, 39, 40, 41, 42, 43, 44, 45, 46, 47, 48, 49, 50, 51, 52, 53, 54, 55, 56, 57, 58, 59, 60, 61, 62] (by decide +kernel) (by decide +kernel)
set_option maxRecDepth 20000 in
theorem gX10_height_X10_agree : GoodIn wsX10_height (wsV RX10 183 RX10 yX10_agree wsX10_agree) := goodIn_app (goodIn_of _ (by decide +kernel)) ggX10_height_X10_agree
theorem dX10_height_0 : decode cX10_height 0 = .ok (.aload_n 0, 1) := by decide +kernel
theorem dX10_height_1 : decode cX10_height 1 = .ok (.aload_n 0, 1) := by decide +kernel
theorem dX10_height_2 : decode cX10_height 2 = .ok (.iload_n 1, 1) := by decide +kernel
theorem dX10_height_3 : decode cX10_height 3 = .ok (.invokevirtual 116, 3) := by decide +kernel
theorem dX10_height_6 : decode cX10_height 6 = .ok (.ifCond .eq 7, 3) := by decide +kernel
theorem dX10_height_9 : decode cX10_height 9 = .ok (.iconst 0, 1) := by decide +kernel
theorem dX10_height_10 : decode cX10_height 10 = .ok (.goto 4, 3) := by decide +kernel
theorem dX10_height_13 : decode cX10_height 13 = .ok (.iconst 1, 1) := by decide +kernel
theorem dX10_height_14 : decode cX10_height 14 = .ok (.putfield 7, 3) := by decide +kernel
theorem dX10_height_17 : decode cX10_height 17 = .ok (.aload_n 0, 1) := by decide +kernel
theorem dX10_height_18 : decode cX10_height 18 = .ok (.getfield 7, 3) := by decide +kernel
theorem dX10_height_21 : decode cX10_height 21 = .ok (.ifCond .le 5, 3) := by decide +kernel
theorem dX10_height_24 : decode cX10_height 24 = .ok (.lconst 0, 1) := by decide +kernel
theorem dX10_height_25 : decode cX10_height 25 = .ok (.lreturn, 1) := by decide +kernel
theorem dX10_height_26 : decode cX10_height 26 = .ok (.aload_n 0, 1) := by decide +kernel
theorem dX10_height_27 : decode cX10_height 27 = .ok (.aload_n 0, 1) := by decide +kernel
theorem dX10_height_28 : decode cX10_height 28 = .ok (.invokevirtual 186, 3) := by decide +kernel
theorem dX10_height_31 : decode cX10_height 31 = .ok (.invokevirtual 183, 3) := by decide +kernel
theorem dX10_height_34 : decode cX10_height 34 = .ok (.istore_n 2, 1) := by decide +kernel
theorem dX10_height_35 : decode cX10_height 35 = .ok (.aload_n 0, 1) := by decide +kernel
theorem dX10_height_36 : decode cX10_height 36 = .ok (.iload_n 2, 1) := by decide +kernel
theorem dX10_height_37 : decode cX10_height 37 = .ok (.ifCond .eq 22, 3) := by decide +kernel
theorem dX10_height_40 : decode cX10_height 40 = .ok (.aload_n 0, 1) := by decide +kernel
theorem dX10_height_41 : decode cX10_height 41 = .ok (.getfield 90, 3) := by decide +kernel
theorem dX10_height_44 : decode cX10_height 44 = .ok (.iload_n 1, 1) := by decide +kernel
theorem dX10_height_45 : decode cX10_height 45 = .ok (.iaload, 1) := by decide +kernel
theorem dX10_height_46 : decode cX10_height 46 = .ok (.aload_n 0, 1) := by decide +kernel
theorem dX10_height_47 : decode cX10_height 47 = .ok (.getfield 90, 3) := by decide +kernel
theorem dX10_height_50 : decode cX10_height 50 = .ok (.iconst 0, 1) := by decide +kernel
theorem dX10_height_51 : decode cX10_height 51 = .ok (.iaload, 1) := by decide +kernel
theorem dX10_height_52 : decode cX10_height 52 = .ok (.if_icmp .ne 7, 3) := by decide +kernel
theorem dX10_height_55 : decode cX10_height 55 = .ok (.iconst 0, 1) := by decide +kernel
theorem dX10_height_56 : decode cX10_height 56 = .ok (.goto 4, 3) := by decide +kernel
theorem dX10_height_59 : decode cX10_height 59 = .ok (.iconst 2, 1) := by decide +kernel
theorem dX10_height_60 : decode cX10_height 60 = .ok (.putfield 7, 3) := by decide +kernel
theorem dX10_height_63 : decode cX10_height 63 = .ok (.aload_n 0, 1) := by decide +kernel
theorem dX10_height_64 : decode cX10_height 64 = .ok (.getfield 7, 3) := by decide +kernel
theorem dX10_height_67 : decode cX10_height 67 = .ok (.ifCond .le 7, 3) := by decide +kernel
theorem dX10_height_70 : decode cX10_height 70 = .ok (.lconst 0, 1) := by decide +kernel
theorem dX10_height_71 : decode cX10_height 71 = .ok (.goto 16, 3) := by decide +kernel
theorem dX10_height_74 : decode cX10_height 74 = .ok (.aload_n 0, 1) := by decide +kernel
theorem dX10_height_75 : decode cX10_height 75 = .ok (.getfield 93, 3) := by decide +kernel
theorem dX10_height_78 : decode cX10_height 78 = .ok (.iload_n 1, 1) := by decide +kernel
theorem dX10_height_79 : decode cX10_height 79 = .ok (.laload, 1) := by decide +kernel
theorem dX10_height_80 : decode cX10_height 80 = .ok (.aload_n 0, 1) := by decide +kernel
theorem dX10_height_81 : decode cX10_height 81 = .ok (.getfield 93, 3) := by decide +kernel
theorem dX10_height_84 : decode cX10_height 84 = .ok (.iconst 0, 1) := by decide +kernel
theorem dX10_height_85 : decode cX10_height 85 = .ok (.laload, 1) := by decide +kernel
theorem dX10_height_86 : decode cX10_height 86 = .ok (.lsub, 1) := by decide +kernel
theorem dX10_height_87 : decode cX10_height 87 = .ok (.lreturn, 1) := by decide +kernel
set_option maxRecDepth 20000 in
theorem ggX10_readingsOf_X10_spot : GoodIn wsX10_readingsOf wsX10_spot := goodIn_r _ [6] (by decide +kernel) (by decide +kernel)
set_option maxRecDepth 20000 in
theorem gX10_readingsOf_X10_spot : GoodIn wsX10_readingsOf (wsV RX10 128 RX10 yX10_spot wsX10_spot) := goodIn_app (goodIn_of _ (by decide +kernel)) ggX10_readingsOf_X10_spot
theorem dX10_readingsOf_0 : decode cX10_readingsOf 0 = .ok (.iconst 0, 1) := by decide +kernel
theorem dX10_readingsOf_1 : decode cX10_readingsOf 1 = .ok (.istore_n 2, 1) := by decide +kernel
theorem dX10_readingsOf_2 : decode cX10_readingsOf 2 = .ok (.iconst 0, 1) := by decide +kernel
theorem dX10_readingsOf_3 : decode cX10_readingsOf 3 = .ok (.istore_n 3, 1) := by decide +kernel
theorem dX10_readingsOf_4 : decode cX10_readingsOf 4 = .ok (.iload_n 3, 1) := by decide +kernel
theorem dX10_readingsOf_5 : decode cX10_readingsOf 5 = .ok (.bipush 40, 2) := by decide +kernel
theorem dX10_readingsOf_7 : decode cX10_readingsOf 7 = .ok (.if_icmp .ge 31, 3) := by decide +kernel
theorem dX10_readingsOf_10 : decode cX10_readingsOf 10 = .ok (.iload_n 2, 1) := by decide +kernel
theorem dX10_readingsOf_11 : decode cX10_readingsOf 11 = .ok (.aload_n 0, 1) := by decide +kernel
theorem dX10_readingsOf_12 : decode cX10_readingsOf 12 = .ok (.getfield 35, 3) := by decide +kernel
theorem dX10_readingsOf_15 : decode cX10_readingsOf 15 = .ok (.aload_n 0, 1) := by decide +kernel
theorem dX10_readingsOf_16 : decode cX10_readingsOf 16 = .ok (.iload_n 1, 1) := by decide +kernel
theorem dX10_readingsOf_17 : decode cX10_readingsOf 17 = .ok (.iload_n 3, 1) := by decide +kernel
theorem dX10_readingsOf_18 : decode cX10_readingsOf 18 = .ok (.invokevirtual 128, 3) := by decide +kernel
theorem dX10_readingsOf_21 : decode cX10_readingsOf 21 = .ok (.baload, 1) := by decide +kernel
theorem dX10_readingsOf_22 : decode cX10_readingsOf 22 = .ok (.ifCond .eq 7, 3) := by decide +kernel
theorem dX10_readingsOf_25 : decode cX10_readingsOf 25 = .ok (.iconst 1, 1) := by decide +kernel
theorem dX10_readingsOf_26 : decode cX10_readingsOf 26 = .ok (.goto 4, 3) := by decide +kernel
theorem dX10_readingsOf_29 : decode cX10_readingsOf 29 = .ok (.iconst 0, 1) := by decide +kernel
theorem dX10_readingsOf_30 : decode cX10_readingsOf 30 = .ok (.iadd, 1) := by decide +kernel
theorem dX10_readingsOf_31 : decode cX10_readingsOf 31 = .ok (.istore_n 2, 1) := by decide +kernel
theorem dX10_readingsOf_32 : decode cX10_readingsOf 32 = .ok (.iinc 3 1, 3) := by decide +kernel
theorem dX10_readingsOf_35 : decode cX10_readingsOf 35 = .ok (.goto (-31), 3) := by decide +kernel
theorem dX10_readingsOf_38 : decode cX10_readingsOf 38 = .ok (.iload_n 2, 1) := by decide +kernel
theorem dX10_readingsOf_39 : decode cX10_readingsOf 39 = .ok (.ireturn, 1) := by decide +kernel
set_option maxRecDepth 20000 in
theorem ggX10_count_X10_readingsOf : GoodIn wsX10_count wsX10_readingsOf := goodIn_r _ [9, 10, 11, 12, 13, 8, 14, 15, 16, 17, 18, 19, 20, 21, 22, 23, 24, 25, 26, 27, 28, 29, 30, 31, 32, 33, 34, 35, 36, 37, 38, 39, 40, 41, 42, 43, 44, 45, 46, 47] (by decide +kernel) (by decide +kernel)
set_option maxRecDepth 20000 in
theorem gX10_count_X10_readingsOf : GoodIn wsX10_count (wsV RX10 190 RX10 yX10_readingsOf wsX10_readingsOf) := goodIn_app (goodIn_of _ (by decide +kernel)) ggX10_count_X10_readingsOf
theorem dX10_count_0 : decode cX10_count 0 = .ok (.iconst 0, 1) := by decide +kernel
theorem dX10_count_1 : decode cX10_count 1 = .ok (.istore_n 2, 1) := by decide +kernel
theorem dX10_count_2 : decode cX10_count 2 = .ok (.iload_n 1, 1) := by decide +kernel
theorem dX10_count_3 : decode cX10_count 3 = .ok (.tableswitch 88 0 4 #[33, 38, 38, 78, 83], 33) := by decide +kernel
theorem dX10_count_36 : decode cX10_count 36 = .ok (.aload_n 0, 1) := by decide +kernel
theorem dX10_count_37 : decode cX10_count 37 = .ok (.getfield 13, 3) := by decide +kernel
theorem dX10_count_40 : decode cX10_count 40 = .ok (.ireturn, 1) := by decide +kernel
theorem dX10_count_41 : decode cX10_count 41 = .ok (.iconst 0, 1) := by decide +kernel
theorem dX10_count_42 : decode cX10_count 42 = .ok (.istore_n 3, 1) := by decide +kernel
theorem dX10_count_43 : decode cX10_count 43 = .ok (.iload_n 3, 1) := by decide +kernel
theorem dX10_count_44 : decode cX10_count 44 = .ok (.aload_n 0, 1) := by decide +kernel
theorem dX10_count_45 : decode cX10_count 45 = .ok (.getfield 13, 3) := by decide +kernel
theorem dX10_count_48 : decode cX10_count 48 = .ok (.if_icmp .ge 31, 3) := by decide +kernel
theorem dX10_count_51 : decode cX10_count 51 = .ok (.iload_n 2, 1) := by decide +kernel
theorem dX10_count_52 : decode cX10_count 52 = .ok (.iload_n 1, 1) := by decide +kernel
theorem dX10_count_53 : decode cX10_count 53 = .ok (.iconst 1, 1) := by decide +kernel
theorem dX10_count_54 : decode cX10_count 54 = .ok (.if_icmp .ne 11, 3) := by decide +kernel
theorem dX10_count_57 : decode cX10_count 57 = .ok (.aload_n 0, 1) := by decide +kernel
theorem dX10_count_58 : decode cX10_count 58 = .ok (.iload_n 3, 1) := by decide +kernel
theorem dX10_count_59 : decode cX10_count 59 = .ok (.invokevirtual 190, 3) := by decide +kernel
theorem dX10_count_62 : decode cX10_count 62 = .ok (.goto 9, 3) := by decide +kernel
theorem dX10_count_65 : decode cX10_count 65 = .ok (.aload_n 0, 1) := by decide +kernel
theorem dX10_count_66 : decode cX10_count 66 = .ok (.getfield 32, 3) := by decide +kernel
theorem dX10_count_69 : decode cX10_count 69 = .ok (.iload_n 3, 1) := by decide +kernel
theorem dX10_count_70 : decode cX10_count 70 = .ok (.iaload, 1) := by decide +kernel
theorem dX10_count_71 : decode cX10_count 71 = .ok (.iadd, 1) := by decide +kernel
theorem dX10_count_72 : decode cX10_count 72 = .ok (.istore_n 2, 1) := by decide +kernel
theorem dX10_count_73 : decode cX10_count 73 = .ok (.iinc 3 1, 3) := by decide +kernel
theorem dX10_count_76 : decode cX10_count 76 = .ok (.goto (-33), 3) := by decide +kernel
theorem dX10_count_79 : decode cX10_count 79 = .ok (.iload_n 2, 1) := by decide +kernel
theorem dX10_count_80 : decode cX10_count 80 = .ok (.ireturn, 1) := by decide +kernel
theorem dX10_count_81 : decode cX10_count 81 = .ok (.aload_n 0, 1) := by decide +kernel
theorem dX10_count_82 : decode cX10_count 82 = .ok (.getfield 78, 3) := by decide +kernel
theorem dX10_count_85 : decode cX10_count 85 = .ok (.ireturn, 1) := by decide +kernel
theorem dX10_count_86 : decode cX10_count 86 = .ok (.aload_n 0, 1) := by decide +kernel
theorem dX10_count_87 : decode cX10_count 87 = .ok (.getfield 63, 3) := by decide +kernel
theorem dX10_count_90 : decode cX10_count 90 = .ok (.ireturn, 1) := by decide +kernel
theorem dX10_count_91 : decode cX10_count 91 = .ok (.iconst (-1), 1) := by decide +kernel
theorem dX10_count_92 : decode cX10_count 92 = .ok (.ireturn, 1) := by decide +kernel
set_option maxRecDepth 20000 in
theorem ggX10_isShelf_X10_in : GoodIn wsX10_isShelf wsX10_in := goodIn_r _ [5] (by decide +kernel) (by decide +kernel)
set_option maxRecDepth 20000 in
theorem gX10_isShelf_X10_in : GoodIn wsX10_isShelf (wsV RX10 112 RX10 yX10_in wsX10_in) := goodIn_app (goodIn_of _ (by decide +kernel)) ggX10_isShelf_X10_in
theorem dX10_isShelf_0 : decode cX10_isShelf 0 = .ok (.aload_n 0, 1) := by decide +kernel
theorem dX10_isShelf_1 : decode cX10_isShelf 1 = .ok (.iload_n 1, 1) := by decide +kernel
theorem dX10_isShelf_2 : decode cX10_isShelf 2 = .ok (.iconst 0, 1) := by decide +kernel
theorem dX10_isShelf_3 : decode cX10_isShelf 3 = .ok (.bipush 7, 2) := by decide +kernel
theorem dX10_isShelf_5 : decode cX10_isShelf 5 = .ok (.invokevirtual 112, 3) := by decide +kernel
theorem dX10_isShelf_8 : decode cX10_isShelf 8 = .ok (.ireturn, 1) := by decide +kernel
theorem dX10_wipe_0 : decode cX10_wipe 0 = .ok (.iconst 0, 1) := by decide +kernel
theorem dX10_wipe_1 : decode cX10_wipe 1 = .ok (.istore_n 2, 1) := by decide +kernel
theorem dX10_wipe_2 : decode cX10_wipe 2 = .ok (.iload_n 2, 1) := by decide +kernel
theorem dX10_wipe_3 : decode cX10_wipe 3 = .ok (.bipush 60, 2) := by decide +kernel
theorem dX10_wipe_5 : decode cX10_wipe 5 = .ok (.if_icmp .ge 21, 3) := by decide +kernel
theorem dX10_wipe_8 : decode cX10_wipe 8 = .ok (.aload_n 0, 1) := by decide +kernel
theorem dX10_wipe_9 : decode cX10_wipe 9 = .ok (.getfield 106, 3) := by decide +kernel
theorem dX10_wipe_12 : decode cX10_wipe 12 = .ok (.bipush 60, 2) := by decide +kernel
theorem dX10_wipe_14 : decode cX10_wipe 14 = .ok (.iload_n 1, 1) := by decide +kernel
theorem dX10_wipe_15 : decode cX10_wipe 15 = .ok (.imul, 1) := by decide +kernel
theorem dX10_wipe_16 : decode cX10_wipe 16 = .ok (.iload_n 2, 1) := by decide +kernel
theorem dX10_wipe_17 : decode cX10_wipe 17 = .ok (.iadd, 1) := by decide +kernel
theorem dX10_wipe_18 : decode cX10_wipe 18 = .ok (.lconst 0, 1) := by decide +kernel
theorem dX10_wipe_19 : decode cX10_wipe 19 = .ok (.lastore, 1) := by decide +kernel
theorem dX10_wipe_20 : decode cX10_wipe 20 = .ok (.iinc 2 1, 3) := by decide +kernel
theorem dX10_wipe_23 : decode cX10_wipe 23 = .ok (.goto (-21), 3) := by decide +kernel
theorem dX10_wipe_26 : decode cX10_wipe 26 = .ok (.return_, 1) := by decide +kernel
set_option maxRecDepth 20000 in
theorem ggX10_keep_X10_isShelf : GoodIn wsX10_keep wsX10_isShelf := goodIn_r _ [9, 10, 11, 12, 8, 13] (by decide +kernel) (by decide +kernel)
set_option maxRecDepth 20000 in
theorem gX10_keep_X10_isShelf : GoodIn wsX10_keep (wsV RX10 193 RX10 yX10_isShelf wsX10_isShelf) := goodIn_app (goodIn_of _ (by decide +kernel)) ggX10_keep_X10_isShelf
set_option maxRecDepth 20000 in
theorem ggX10_keep_X10_isMark : GoodIn wsX10_keep wsX10_isMark := goodIn_r _ [17, 18, 10, 11, 12, 8, 13, 59, 60, 61, 62, 63, 64, 65, 66, 67, 68, 69, 70, 71, 72, 73, 74, 75, 76, 77, 78, 79, 80, 81, 82, 83, 84, 85, 86, 87, 88, 89, 90, 91] (by decide +kernel) (by decide +kernel)
set_option maxRecDepth 20000 in
theorem gX10_keep_X10_isMark : GoodIn wsX10_keep (wsV RX10 116 RX10 yX10_isMark wsX10_isMark) := goodIn_app (goodIn_of _ (by decide +kernel)) ggX10_keep_X10_isMark
set_option maxRecDepth 20000 in
theorem ggX10_keep_X10_wipe : GoodIn wsX10_keep wsX10_wipe := goodIn_r _ [22, 4, 59, 60, 61, 62, 63, 64, 65, 66, 67, 68, 69, 70, 71, 72, 73, 74, 75, 76, 77, 78, 79, 80, 81, 82, 83, 84, 85, 86, 87, 88, 89, 90, 91] (by decide +kernel) (by decide +kernel)
set_option maxRecDepth 20000 in
theorem gX10_keep_X10_wipe : GoodIn wsX10_keep (wsV RX10 196 RX10 yX10_wipe wsX10_wipe) := goodIn_app (goodIn_of _ (by decide +kernel)) ggX10_keep_X10_wipe
set_option maxRecDepth 20000 in
theorem ggX10_keep_X10_isCleared : GoodIn wsX10_keep wsX10_isCleared := goodIn_r _ [26, 27, 28, 29, 30, 8, 31, 32, 33, 34, 35, 36, 59, 60, 61, 62, 63, 64, 65, 66, 67, 68, 69, 70, 71, 72, 73, 74, 75, 76, 77, 78, 79, 80, 81, 82, 83, 84, 85, 86, 87, 88, 89, 90, 91] (by decide +kernel) (by decide +kernel)
set_option maxRecDepth 20000 in
theorem gX10_keep_X10_isCleared : GoodIn wsX10_keep (wsV RX10 146 RX10 yX10_isCleared wsX10_isCleared) := goodIn_app (goodIn_of _ (by decide +kernel)) ggX10_keep_X10_isCleared
set_option maxRecDepth 20000 in
theorem ggX10_keep_X10_clear : GoodIn wsX10_keep wsX10_clear := goodIn_r _ [40, 41, 42, 36, 43, 44, 45, 8, 46, 47, 48, 49, 50, 28, 29, 30, 31, 51, 52, 53, 54, 55, 56, 57, 58, 27, 59, 60, 61, 62, 63, 64, 65, 66, 67, 68, 69, 70, 71, 72, 73, 74, 75, 76, 77, 78, 79, 80, 81, 82, 83, 84, 85, 86, 87, 88, 89, 90, 91] (by decide +kernel) (by decide +kernel)
set_option maxRecDepth 20000 in
theorem gX10_keep_X10_clear : GoodIn wsX10_keep (wsV RX10 149 RX10 yX10_clear wsX10_clear) := goodIn_app (goodIn_of _ (by decide +kernel)) ggX10_keep_X10_clear
theorem dX10_keep_0 : decode cX10_keep 0 = .ok (.aload_n 0, 1) := by decide +kernel
theorem dX10_keep_1 : decode cX10_keep 1 = .ok (.iload_n 1, 1) := by decide +kernel
theorem dX10_keep_2 : decode cX10_keep 2 = .ok (.invokevirtual 193, 3) := by decide +kernel
theorem dX10_keep_5 : decode cX10_keep 5 = .ok (.ifCond .eq 34, 3) := by decide +kernel
theorem dX10_keep_8 : decode cX10_keep 8 = .ok (.iload_n 2, 1) := by decide +kernel
theorem dX10_keep_9 : decode cX10_keep 9 = .ok (.ifCond .eq 26, 3) := by decide +kernel
theorem dX10_keep_12 : decode cX10_keep 12 = .ok (.iload_n 2, 1) := by decide +kernel
theorem dX10_keep_13 : decode cX10_keep 13 = .ok (.iconst 1, 1) := by decide +kernel
theorem dX10_keep_14 : decode cX10_keep 14 = .ok (.if_icmp .eq 13, 3) := by decide +kernel
theorem dX10_keep_17 : decode cX10_keep 17 = .ok (.iload_n 2, 1) := by decide +kernel
theorem dX10_keep_18 : decode cX10_keep 18 = .ok (.iconst 3, 1) := by decide +kernel
theorem dX10_keep_19 : decode cX10_keep 19 = .ok (.if_icmp .eq 8, 3) := by decide +kernel
theorem dX10_keep_22 : decode cX10_keep 22 = .ok (.iload_n 2, 1) := by decide +kernel
theorem dX10_keep_23 : decode cX10_keep 23 = .ok (.iconst 4, 1) := by decide +kernel
theorem dX10_keep_24 : decode cX10_keep 24 = .ok (.if_icmp .ne 15, 3) := by decide +kernel
theorem dX10_keep_27 : decode cX10_keep 27 = .ok (.aload_n 0, 1) := by decide +kernel
theorem dX10_keep_28 : decode cX10_keep 28 = .ok (.iload_n 3, 1) := by decide +kernel
theorem dX10_keep_29 : decode cX10_keep 29 = .ok (.invokevirtual 116, 3) := by decide +kernel
theorem dX10_keep_32 : decode cX10_keep 32 = .ok (.ifCond .eq 7, 3) := by decide +kernel
theorem dX10_keep_35 : decode cX10_keep 35 = .ok (.iconst 1, 1) := by decide +kernel
theorem dX10_keep_36 : decode cX10_keep 36 = .ok (.goto 4, 3) := by decide +kernel
theorem dX10_keep_39 : decode cX10_keep 39 = .ok (.iconst 0, 1) := by decide +kernel
theorem dX10_keep_40 : decode cX10_keep 40 = .ok (.istore 4, 2) := by decide +kernel
theorem dX10_keep_42 : decode cX10_keep 42 = .ok (.iload 4, 2) := by decide +kernel
theorem dX10_keep_44 : decode cX10_keep 44 = .ok (.ifCond .ne 5, 3) := by decide +kernel
theorem dX10_keep_47 : decode cX10_keep 47 = .ok (.iconst (-1), 1) := by decide +kernel
theorem dX10_keep_48 : decode cX10_keep 48 = .ok (.ireturn, 1) := by decide +kernel
theorem dX10_keep_49 : decode cX10_keep 49 = .ok (.aload_n 0, 1) := by decide +kernel
theorem dX10_keep_50 : decode cX10_keep 50 = .ok (.getfield 97, 3) := by decide +kernel
theorem dX10_keep_53 : decode cX10_keep 53 = .ok (.iload_n 1, 1) := by decide +kernel
theorem dX10_keep_54 : decode cX10_keep 54 = .ok (.iload_n 2, 1) := by decide +kernel
theorem dX10_keep_55 : decode cX10_keep 55 = .ok (.iastore, 1) := by decide +kernel
theorem dX10_keep_56 : decode cX10_keep 56 = .ok (.aload_n 0, 1) := by decide +kernel
theorem dX10_keep_57 : decode cX10_keep 57 = .ok (.getfield 100, 3) := by decide +kernel
theorem dX10_keep_60 : decode cX10_keep 60 = .ok (.iload_n 1, 1) := by decide +kernel
theorem dX10_keep_61 : decode cX10_keep 61 = .ok (.iload_n 3, 1) := by decide +kernel
theorem dX10_keep_62 : decode cX10_keep 62 = .ok (.iastore, 1) := by decide +kernel
theorem dX10_keep_63 : decode cX10_keep 63 = .ok (.aload_n 0, 1) := by decide +kernel
theorem dX10_keep_64 : decode cX10_keep 64 = .ok (.iload_n 1, 1) := by decide +kernel
theorem dX10_keep_65 : decode cX10_keep 65 = .ok (.invokevirtual 196, 3) := by decide +kernel
theorem dX10_keep_68 : decode cX10_keep 68 = .ok (.aload_n 0, 1) := by decide +kernel
theorem dX10_keep_69 : decode cX10_keep 69 = .ok (.getfield 103, 3) := by decide +kernel
theorem dX10_keep_72 : decode cX10_keep 72 = .ok (.iload_n 1, 1) := by decide +kernel
theorem dX10_keep_73 : decode cX10_keep 73 = .ok (.iconst 0, 1) := by decide +kernel
theorem dX10_keep_74 : decode cX10_keep 74 = .ok (.iastore, 1) := by decide +kernel
theorem dX10_keep_75 : decode cX10_keep 75 = .ok (.iconst 0, 1) := by decide +kernel
theorem dX10_keep_76 : decode cX10_keep 76 = .ok (.istore 5, 2) := by decide +kernel
theorem dX10_keep_78 : decode cX10_keep 78 = .ok (.iload 5, 2) := by decide +kernel
theorem dX10_keep_80 : decode cX10_keep 80 = .ok (.bipush 40, 2) := by decide +kernel
theorem dX10_keep_82 : decode cX10_keep 82 = .ok (.if_icmp .ge 72, 3) := by decide +kernel
theorem dX10_keep_85 : decode cX10_keep 85 = .ok (.iload_n 2, 1) := by decide +kernel
theorem dX10_keep_86 : decode cX10_keep 86 = .ok (.iconst 1, 1) := by decide +kernel
theorem dX10_keep_87 : decode cX10_keep 87 = .ok (.if_icmp .le 67, 3) := by decide +kernel
theorem dX10_keep_90 : decode cX10_keep 90 = .ok (.aload_n 0, 1) := by decide +kernel
theorem dX10_keep_91 : decode cX10_keep 91 = .ok (.iload_n 3, 1) := by decide +kernel
theorem dX10_keep_92 : decode cX10_keep 92 = .ok (.iload 5, 2) := by decide +kernel
theorem dX10_keep_94 : decode cX10_keep 94 = .ok (.invokevirtual 146, 3) := by decide +kernel
theorem dX10_keep_97 : decode cX10_keep 97 = .ok (.ifCond .ne 6, 3) := by decide +kernel
theorem dX10_keep_100 : decode cX10_keep 100 = .ok (.goto 48, 3) := by decide +kernel
theorem dX10_keep_103 : decode cX10_keep 103 = .ok (.aload_n 0, 1) := by decide +kernel
theorem dX10_keep_104 : decode cX10_keep 104 = .ok (.getfield 106, 3) := by decide +kernel
theorem dX10_keep_107 : decode cX10_keep 107 = .ok (.bipush 60, 2) := by decide +kernel
theorem dX10_keep_109 : decode cX10_keep 109 = .ok (.iload_n 1, 1) := by decide +kernel
theorem dX10_keep_110 : decode cX10_keep 110 = .ok (.imul, 1) := by decide +kernel
theorem dX10_keep_111 : decode cX10_keep 111 = .ok (.aload_n 0, 1) := by decide +kernel
theorem dX10_keep_112 : decode cX10_keep 112 = .ok (.getfield 103, 3) := by decide +kernel
theorem dX10_keep_115 : decode cX10_keep 115 = .ok (.iload_n 1, 1) := by decide +kernel
theorem dX10_keep_116 : decode cX10_keep 116 = .ok (.iaload, 1) := by decide +kernel
theorem dX10_keep_117 : decode cX10_keep 117 = .ok (.iadd, 1) := by decide +kernel
theorem dX10_keep_118 : decode cX10_keep 118 = .ok (.iload_n 2, 1) := by decide +kernel
theorem dX10_keep_119 : decode cX10_keep 119 = .ok (.iconst 3, 1) := by decide +kernel
theorem dX10_keep_120 : decode cX10_keep 120 = .ok (.if_icmp .ne 9, 3) := by decide +kernel
theorem dX10_keep_123 : decode cX10_keep 123 = .ok (.iload 5, 2) := by decide +kernel
theorem dX10_keep_125 : decode cX10_keep 125 = .ok (.i2l, 1) := by decide +kernel
theorem dX10_keep_126 : decode cX10_keep 126 = .ok (.goto 11, 3) := by decide +kernel
theorem dX10_keep_129 : decode cX10_keep 129 = .ok (.aload_n 0, 1) := by decide +kernel
theorem dX10_keep_130 : decode cX10_keep 130 = .ok (.iload_n 3, 1) := by decide +kernel
theorem dX10_keep_131 : decode cX10_keep 131 = .ok (.iload 5, 2) := by decide +kernel
theorem dX10_keep_133 : decode cX10_keep 133 = .ok (.iconst 0, 1) := by decide +kernel
theorem dX10_keep_134 : decode cX10_keep 134 = .ok (.invokevirtual 149, 3) := by decide +kernel
theorem dX10_keep_137 : decode cX10_keep 137 = .ok (.lastore, 1) := by decide +kernel
theorem dX10_keep_138 : decode cX10_keep 138 = .ok (.aload_n 0, 1) := by decide +kernel
theorem dX10_keep_139 : decode cX10_keep 139 = .ok (.getfield 103, 3) := by decide +kernel
theorem dX10_keep_142 : decode cX10_keep 142 = .ok (.iload_n 1, 1) := by decide +kernel
theorem dX10_keep_143 : decode cX10_keep 143 = .ok (.dup2, 1) := by decide +kernel
theorem dX10_keep_144 : decode cX10_keep 144 = .ok (.iaload, 1) := by decide +kernel
theorem dX10_keep_145 : decode cX10_keep 145 = .ok (.iconst 1, 1) := by decide +kernel
theorem dX10_keep_146 : decode cX10_keep 146 = .ok (.iadd, 1) := by decide +kernel
theorem dX10_keep_147 : decode cX10_keep 147 = .ok (.iastore, 1) := by decide +kernel
theorem dX10_keep_148 : decode cX10_keep 148 = .ok (.iinc 5 1, 3) := by decide +kernel
theorem dX10_keep_151 : decode cX10_keep 151 = .ok (.goto (-73), 3) := by decide +kernel
theorem dX10_keep_154 : decode cX10_keep 154 = .ok (.iconst 0, 1) := by decide +kernel
theorem dX10_keep_155 : decode cX10_keep 155 = .ok (.ireturn, 1) := by decide +kernel
set_option maxRecDepth 20000 in
theorem ggX10_make_X10_isShelf : GoodIn wsX10_make wsX10_isShelf := goodIn_r _ [7, 8, 9, 10, 6, 11] (by decide +kernel) (by decide +kernel)
set_option maxRecDepth 20000 in
theorem gX10_make_X10_isShelf : GoodIn wsX10_make (wsV RX10 193 RX10 yX10_isShelf wsX10_isShelf) := goodIn_app (goodIn_of _ (by decide +kernel)) ggX10_make_X10_isShelf
set_option maxRecDepth 20000 in
theorem ggX10_make_X10_in : GoodIn wsX10_make wsX10_in := goodIn_r _ [11] (by decide +kernel) (by decide +kernel)
set_option maxRecDepth 20000 in
theorem gX10_make_X10_in : GoodIn wsX10_make (wsV RX10 112 RX10 yX10_in wsX10_in) := goodIn_app (goodIn_of _ (by decide +kernel)) ggX10_make_X10_in
set_option maxRecDepth 20000 in
theorem ggX10_make_X10_wipe : GoodIn wsX10_make wsX10_wipe := goodIn_r _ [15, 16, 17, 18, 19, 20, 21, 22, 23, 24, 25, 26, 27, 28, 29, 30, 31, 32, 33, 34, 35, 36, 37, 38, 39, 40, 41, 42, 43, 44, 45, 46, 47, 48, 49] (by decide +kernel) (by decide +kernel)
set_option maxRecDepth 20000 in
theorem gX10_make_X10_wipe : GoodIn wsX10_make (wsV RX10 196 RX10 yX10_wipe wsX10_wipe) := goodIn_app (goodIn_of _ (by decide +kernel)) ggX10_make_X10_wipe
theorem dX10_make_0 : decode cX10_make 0 = .ok (.aload_n 0, 1) := by decide +kernel
theorem dX10_make_1 : decode cX10_make 1 = .ok (.iload_n 1, 1) := by decide +kernel
theorem dX10_make_2 : decode cX10_make 2 = .ok (.invokevirtual 193, 3) := by decide +kernel
theorem dX10_make_5 : decode cX10_make 5 = .ok (.ifCond .eq 19, 3) := by decide +kernel
theorem dX10_make_8 : decode cX10_make 8 = .ok (.aload_n 0, 1) := by decide +kernel
theorem dX10_make_9 : decode cX10_make 9 = .ok (.iload_n 2, 1) := by decide +kernel
theorem dX10_make_10 : decode cX10_make 10 = .ok (.iconst 3, 1) := by decide +kernel
theorem dX10_make_11 : decode cX10_make 11 = .ok (.iconst 4, 1) := by decide +kernel
theorem dX10_make_12 : decode cX10_make 12 = .ok (.invokevirtual 112, 3) := by decide +kernel
theorem dX10_make_15 : decode cX10_make 15 = .ok (.ifCond .eq 9, 3) := by decide +kernel
theorem dX10_make_18 : decode cX10_make 18 = .ok (.iload_n 3, 1) := by decide +kernel
theorem dX10_make_19 : decode cX10_make 19 = .ok (.bipush 60, 2) := by decide +kernel
theorem dX10_make_21 : decode cX10_make 21 = .ok (.if_icmp .le 5, 3) := by decide +kernel
theorem dX10_make_24 : decode cX10_make 24 = .ok (.iconst (-1), 1) := by decide +kernel
theorem dX10_make_25 : decode cX10_make 25 = .ok (.ireturn, 1) := by decide +kernel
theorem dX10_make_26 : decode cX10_make 26 = .ok (.iload_n 3, 1) := by decide +kernel
theorem dX10_make_27 : decode cX10_make 27 = .ok (.ifCond .ge 6, 3) := by decide +kernel
theorem dX10_make_30 : decode cX10_make 30 = .ok (.bipush (-14), 2) := by decide +kernel
theorem dX10_make_32 : decode cX10_make 32 = .ok (.ireturn, 1) := by decide +kernel
theorem dX10_make_33 : decode cX10_make 33 = .ok (.aload_n 0, 1) := by decide +kernel
theorem dX10_make_34 : decode cX10_make 34 = .ok (.getfield 97, 3) := by decide +kernel
theorem dX10_make_37 : decode cX10_make 37 = .ok (.iload_n 1, 1) := by decide +kernel
theorem dX10_make_38 : decode cX10_make 38 = .ok (.iload_n 2, 1) := by decide +kernel
theorem dX10_make_39 : decode cX10_make 39 = .ok (.iastore, 1) := by decide +kernel
theorem dX10_make_40 : decode cX10_make 40 = .ok (.aload_n 0, 1) := by decide +kernel
theorem dX10_make_41 : decode cX10_make 41 = .ok (.getfield 103, 3) := by decide +kernel
theorem dX10_make_44 : decode cX10_make 44 = .ok (.iload_n 1, 1) := by decide +kernel
theorem dX10_make_45 : decode cX10_make 45 = .ok (.iload_n 3, 1) := by decide +kernel
theorem dX10_make_46 : decode cX10_make 46 = .ok (.iastore, 1) := by decide +kernel
theorem dX10_make_47 : decode cX10_make 47 = .ok (.aload_n 0, 1) := by decide +kernel
theorem dX10_make_48 : decode cX10_make 48 = .ok (.iload_n 1, 1) := by decide +kernel
theorem dX10_make_49 : decode cX10_make 49 = .ok (.invokevirtual 196, 3) := by decide +kernel
theorem dX10_make_52 : decode cX10_make 52 = .ok (.iconst 0, 1) := by decide +kernel
theorem dX10_make_53 : decode cX10_make 53 = .ok (.ireturn, 1) := by decide +kernel
set_option maxRecDepth 20000 in
theorem ggX10_element_X10_isShelf : GoodIn wsX10_element wsX10_isShelf := goodIn_r _ [9, 10, 11, 12, 8, 13] (by decide +kernel) (by decide +kernel)
set_option maxRecDepth 20000 in
theorem gX10_element_X10_isShelf : GoodIn wsX10_element (wsV RX10 193 RX10 yX10_isShelf wsX10_isShelf) := goodIn_app (goodIn_of _ (by decide +kernel)) ggX10_element_X10_isShelf
set_option maxRecDepth 20000 in
theorem ggX10_element_X10_in : GoodIn wsX10_element wsX10_in := goodIn_r _ [13] (by decide +kernel) (by decide +kernel)
set_option maxRecDepth 20000 in
theorem gX10_element_X10_in : GoodIn wsX10_element (wsV RX10 112 RX10 yX10_in wsX10_in) := goodIn_app (goodIn_of _ (by decide +kernel)) ggX10_element_X10_in
theorem dX10_element_0 : decode cX10_element 0 = .ok (.aload_n 0, 1) := by decide +kernel
theorem dX10_element_1 : decode cX10_element 1 = .ok (.aload_n 0, 1) := by decide +kernel
theorem dX10_element_2 : decode cX10_element 2 = .ok (.iload_n 1, 1) := by decide +kernel
theorem dX10_element_3 : decode cX10_element 3 = .ok (.invokevirtual 193, 3) := by decide +kernel
theorem dX10_element_6 : decode cX10_element 6 = .ok (.ifCond .ne 7, 3) := by decide +kernel
theorem dX10_element_9 : decode cX10_element 9 = .ok (.iconst 1, 1) := by decide +kernel
theorem dX10_element_10 : decode cX10_element 10 = .ok (.goto 35, 3) := by decide +kernel
theorem dX10_element_13 : decode cX10_element 13 = .ok (.aload_n 0, 1) := by decide +kernel
theorem dX10_element_14 : decode cX10_element 14 = .ok (.getfield 97, 3) := by decide +kernel
theorem dX10_element_17 : decode cX10_element 17 = .ok (.iload_n 1, 1) := by decide +kernel
theorem dX10_element_18 : decode cX10_element 18 = .ok (.iaload, 1) := by decide +kernel
theorem dX10_element_19 : decode cX10_element 19 = .ok (.iconst 3, 1) := by decide +kernel
theorem dX10_element_20 : decode cX10_element 20 = .ok (.if_icmp .lt 20, 3) := by decide +kernel
theorem dX10_element_23 : decode cX10_element 23 = .ok (.aload_n 0, 1) := by decide +kernel
theorem dX10_element_24 : decode cX10_element 24 = .ok (.iload_n 2, 1) := by decide +kernel
theorem dX10_element_25 : decode cX10_element 25 = .ok (.iconst 0, 1) := by decide +kernel
theorem dX10_element_26 : decode cX10_element 26 = .ok (.aload_n 0, 1) := by decide +kernel
theorem dX10_element_27 : decode cX10_element 27 = .ok (.getfield 103, 3) := by decide +kernel
theorem dX10_element_30 : decode cX10_element 30 = .ok (.iload_n 1, 1) := by decide +kernel
theorem dX10_element_31 : decode cX10_element 31 = .ok (.iaload, 1) := by decide +kernel
theorem dX10_element_32 : decode cX10_element 32 = .ok (.iconst 1, 1) := by decide +kernel
theorem dX10_element_33 : decode cX10_element 33 = .ok (.isub, 1) := by decide +kernel
theorem dX10_element_34 : decode cX10_element 34 = .ok (.invokevirtual 112, 3) := by decide +kernel
theorem dX10_element_37 : decode cX10_element 37 = .ok (.ifCond .ne 7, 3) := by decide +kernel
theorem dX10_element_40 : decode cX10_element 40 = .ok (.iconst 2, 1) := by decide +kernel
theorem dX10_element_41 : decode cX10_element 41 = .ok (.goto 4, 3) := by decide +kernel
theorem dX10_element_44 : decode cX10_element 44 = .ok (.iconst 0, 1) := by decide +kernel
theorem dX10_element_45 : decode cX10_element 45 = .ok (.putfield 7, 3) := by decide +kernel
theorem dX10_element_48 : decode cX10_element 48 = .ok (.aload_n 0, 1) := by decide +kernel
theorem dX10_element_49 : decode cX10_element 49 = .ok (.getfield 7, 3) := by decide +kernel
theorem dX10_element_52 : decode cX10_element 52 = .ok (.ifCond .le 7, 3) := by decide +kernel
theorem dX10_element_55 : decode cX10_element 55 = .ok (.lconst 0, 1) := by decide +kernel
theorem dX10_element_56 : decode cX10_element 56 = .ok (.goto 14, 3) := by decide +kernel
theorem dX10_element_59 : decode cX10_element 59 = .ok (.aload_n 0, 1) := by decide +kernel
theorem dX10_element_60 : decode cX10_element 60 = .ok (.getfield 106, 3) := by decide +kernel
theorem dX10_element_63 : decode cX10_element 63 = .ok (.bipush 60, 2) := by decide +kernel
theorem dX10_element_65 : decode cX10_element 65 = .ok (.iload_n 1, 1) := by decide +kernel
theorem dX10_element_66 : decode cX10_element 66 = .ok (.imul, 1) := by decide +kernel
theorem dX10_element_67 : decode cX10_element 67 = .ok (.iload_n 2, 1) := by decide +kernel
theorem dX10_element_68 : decode cX10_element 68 = .ok (.iadd, 1) := by decide +kernel
theorem dX10_element_69 : decode cX10_element 69 = .ok (.laload, 1) := by decide +kernel
theorem dX10_element_70 : decode cX10_element 70 = .ok (.lreturn, 1) := by decide +kernel
set_option maxRecDepth 20000 in
theorem ggX10_copy_X10_isShelf : GoodIn wsX10_copy wsX10_isShelf := goodIn_r _ [9, 10, 11, 12, 8, 13] (by decide +kernel) (by decide +kernel)
set_option maxRecDepth 20000 in
theorem gX10_copy_X10_isShelf : GoodIn wsX10_copy (wsV RX10 193 RX10 yX10_isShelf wsX10_isShelf) := goodIn_app (goodIn_of _ (by decide +kernel)) ggX10_copy_X10_isShelf
theorem dX10_copy_0 : decode cX10_copy 0 = .ok (.aload_n 0, 1) := by decide +kernel
theorem dX10_copy_1 : decode cX10_copy 1 = .ok (.iload_n 1, 1) := by decide +kernel
theorem dX10_copy_2 : decode cX10_copy 2 = .ok (.invokevirtual 193, 3) := by decide +kernel
theorem dX10_copy_5 : decode cX10_copy 5 = .ok (.ifCond .eq 11, 3) := by decide +kernel
theorem dX10_copy_8 : decode cX10_copy 8 = .ok (.aload_n 0, 1) := by decide +kernel
theorem dX10_copy_9 : decode cX10_copy 9 = .ok (.iload_n 3, 1) := by decide +kernel
theorem dX10_copy_10 : decode cX10_copy 10 = .ok (.invokevirtual 193, 3) := by decide +kernel
theorem dX10_copy_13 : decode cX10_copy 13 = .ok (.ifCond .ne 5, 3) := by decide +kernel
theorem dX10_copy_16 : decode cX10_copy 16 = .ok (.iconst (-1), 1) := by decide +kernel
theorem dX10_copy_17 : decode cX10_copy 17 = .ok (.ireturn, 1) := by decide +kernel
theorem dX10_copy_18 : decode cX10_copy 18 = .ok (.aload_n 0, 1) := by decide +kernel
theorem dX10_copy_19 : decode cX10_copy 19 = .ok (.getfield 97, 3) := by decide +kernel
theorem dX10_copy_22 : decode cX10_copy 22 = .ok (.iload_n 1, 1) := by decide +kernel
theorem dX10_copy_23 : decode cX10_copy 23 = .ok (.iaload, 1) := by decide +kernel
theorem dX10_copy_24 : decode cX10_copy 24 = .ok (.ifCond .eq 12, 3) := by decide +kernel
theorem dX10_copy_27 : decode cX10_copy 27 = .ok (.aload_n 0, 1) := by decide +kernel
theorem dX10_copy_28 : decode cX10_copy 28 = .ok (.getfield 97, 3) := by decide +kernel
theorem dX10_copy_31 : decode cX10_copy 31 = .ok (.iload_n 3, 1) := by decide +kernel
theorem dX10_copy_32 : decode cX10_copy 32 = .ok (.iaload, 1) := by decide +kernel
theorem dX10_copy_33 : decode cX10_copy 33 = .ok (.ifCond .ne 6, 3) := by decide +kernel
theorem dX10_copy_36 : decode cX10_copy 36 = .ok (.bipush (-11), 2) := by decide +kernel
theorem dX10_copy_38 : decode cX10_copy 38 = .ok (.ireturn, 1) := by decide +kernel
theorem dX10_copy_39 : decode cX10_copy 39 = .ok (.aload_n 0, 1) := by decide +kernel
theorem dX10_copy_40 : decode cX10_copy 40 = .ok (.getfield 97, 3) := by decide +kernel
theorem dX10_copy_43 : decode cX10_copy 43 = .ok (.iload_n 1, 1) := by decide +kernel
theorem dX10_copy_44 : decode cX10_copy 44 = .ok (.iaload, 1) := by decide +kernel
theorem dX10_copy_45 : decode cX10_copy 45 = .ok (.iconst 3, 1) := by decide +kernel
theorem dX10_copy_46 : decode cX10_copy 46 = .ok (.if_icmp .lt 18, 3) := by decide +kernel
theorem dX10_copy_49 : decode cX10_copy 49 = .ok (.aload_n 0, 1) := by decide +kernel
theorem dX10_copy_50 : decode cX10_copy 50 = .ok (.getfield 97, 3) := by decide +kernel
theorem dX10_copy_53 : decode cX10_copy 53 = .ok (.iload_n 1, 1) := by decide +kernel
theorem dX10_copy_54 : decode cX10_copy 54 = .ok (.iaload, 1) := by decide +kernel
theorem dX10_copy_55 : decode cX10_copy 55 = .ok (.aload_n 0, 1) := by decide +kernel
theorem dX10_copy_56 : decode cX10_copy 56 = .ok (.getfield 97, 3) := by decide +kernel
theorem dX10_copy_59 : decode cX10_copy 59 = .ok (.iload_n 3, 1) := by decide +kernel
theorem dX10_copy_60 : decode cX10_copy 60 = .ok (.iaload, 1) := by decide +kernel
theorem dX10_copy_61 : decode cX10_copy 61 = .ok (.if_icmp .eq 6, 3) := by decide +kernel
theorem dX10_copy_64 : decode cX10_copy 64 = .ok (.bipush (-12), 2) := by decide +kernel
theorem dX10_copy_66 : decode cX10_copy 66 = .ok (.ireturn, 1) := by decide +kernel
theorem dX10_copy_67 : decode cX10_copy 67 = .ok (.iload 5, 2) := by decide +kernel
theorem dX10_copy_69 : decode cX10_copy 69 = .ok (.ifCond .lt 39, 3) := by decide +kernel
theorem dX10_copy_72 : decode cX10_copy 72 = .ok (.iload_n 2, 1) := by decide +kernel
theorem dX10_copy_73 : decode cX10_copy 73 = .ok (.ifCond .lt 35, 3) := by decide +kernel
theorem dX10_copy_76 : decode cX10_copy 76 = .ok (.iload 4, 2) := by decide +kernel
theorem dX10_copy_78 : decode cX10_copy 78 = .ok (.ifCond .lt 30, 3) := by decide +kernel
theorem dX10_copy_81 : decode cX10_copy 81 = .ok (.iload_n 2, 1) := by decide +kernel
theorem dX10_copy_82 : decode cX10_copy 82 = .ok (.aload_n 0, 1) := by decide +kernel
theorem dX10_copy_83 : decode cX10_copy 83 = .ok (.getfield 103, 3) := by decide +kernel
theorem dX10_copy_86 : decode cX10_copy 86 = .ok (.iload_n 1, 1) := by decide +kernel
theorem dX10_copy_87 : decode cX10_copy 87 = .ok (.iaload, 1) := by decide +kernel
theorem dX10_copy_88 : decode cX10_copy 88 = .ok (.iload 5, 2) := by decide +kernel
theorem dX10_copy_90 : decode cX10_copy 90 = .ok (.isub, 1) := by decide +kernel
theorem dX10_copy_91 : decode cX10_copy 91 = .ok (.if_icmp .gt 17, 3) := by decide +kernel
theorem dX10_copy_94 : decode cX10_copy 94 = .ok (.iload 4, 2) := by decide +kernel
theorem dX10_copy_96 : decode cX10_copy 96 = .ok (.aload_n 0, 1) := by decide +kernel
theorem dX10_copy_97 : decode cX10_copy 97 = .ok (.getfield 103, 3) := by decide +kernel
theorem dX10_copy_100 : decode cX10_copy 100 = .ok (.iload_n 3, 1) := by decide +kernel
theorem dX10_copy_101 : decode cX10_copy 101 = .ok (.iaload, 1) := by decide +kernel
theorem dX10_copy_102 : decode cX10_copy 102 = .ok (.iload 5, 2) := by decide +kernel
theorem dX10_copy_104 : decode cX10_copy 104 = .ok (.isub, 1) := by decide +kernel
theorem dX10_copy_105 : decode cX10_copy 105 = .ok (.if_icmp .le 6, 3) := by decide +kernel
theorem dX10_copy_108 : decode cX10_copy 108 = .ok (.bipush (-13), 2) := by decide +kernel
theorem dX10_copy_110 : decode cX10_copy 110 = .ok (.ireturn, 1) := by decide +kernel
theorem dX10_copy_111 : decode cX10_copy 111 = .ok (.iconst 0, 1) := by decide +kernel
theorem dX10_copy_112 : decode cX10_copy 112 = .ok (.istore 6, 2) := by decide +kernel
theorem dX10_copy_114 : decode cX10_copy 114 = .ok (.iload 6, 2) := by decide +kernel
theorem dX10_copy_116 : decode cX10_copy 116 = .ok (.iload 5, 2) := by decide +kernel
theorem dX10_copy_118 : decode cX10_copy 118 = .ok (.if_icmp .ge 30, 3) := by decide +kernel
theorem dX10_copy_121 : decode cX10_copy 121 = .ok (.aload_n 0, 1) := by decide +kernel
theorem dX10_copy_122 : decode cX10_copy 122 = .ok (.getfield 109, 3) := by decide +kernel
theorem dX10_copy_125 : decode cX10_copy 125 = .ok (.iload 6, 2) := by decide +kernel
theorem dX10_copy_127 : decode cX10_copy 127 = .ok (.aload_n 0, 1) := by decide +kernel
theorem dX10_copy_128 : decode cX10_copy 128 = .ok (.getfield 106, 3) := by decide +kernel
theorem dX10_copy_131 : decode cX10_copy 131 = .ok (.bipush 60, 2) := by decide +kernel
theorem dX10_copy_133 : decode cX10_copy 133 = .ok (.iload_n 1, 1) := by decide +kernel
theorem dX10_copy_134 : decode cX10_copy 134 = .ok (.imul, 1) := by decide +kernel
theorem dX10_copy_135 : decode cX10_copy 135 = .ok (.iload_n 2, 1) := by decide +kernel
theorem dX10_copy_136 : decode cX10_copy 136 = .ok (.iadd, 1) := by decide +kernel
theorem dX10_copy_137 : decode cX10_copy 137 = .ok (.iload 6, 2) := by decide +kernel
theorem dX10_copy_139 : decode cX10_copy 139 = .ok (.iadd, 1) := by decide +kernel
theorem dX10_copy_140 : decode cX10_copy 140 = .ok (.laload, 1) := by decide +kernel
theorem dX10_copy_141 : decode cX10_copy 141 = .ok (.lastore, 1) := by decide +kernel
theorem dX10_copy_142 : decode cX10_copy 142 = .ok (.iinc 6 1, 3) := by decide +kernel
theorem dX10_copy_145 : decode cX10_copy 145 = .ok (.goto (-31), 3) := by decide +kernel
theorem dX10_copy_148 : decode cX10_copy 148 = .ok (.iconst 0, 1) := by decide +kernel
theorem dX10_copy_149 : decode cX10_copy 149 = .ok (.istore 6, 2) := by decide +kernel
theorem dX10_copy_151 : decode cX10_copy 151 = .ok (.iload 6, 2) := by decide +kernel
theorem dX10_copy_153 : decode cX10_copy 153 = .ok (.iload 5, 2) := by decide +kernel
theorem dX10_copy_155 : decode cX10_copy 155 = .ok (.if_icmp .ge 31, 3) := by decide +kernel
theorem dX10_copy_158 : decode cX10_copy 158 = .ok (.aload_n 0, 1) := by decide +kernel
theorem dX10_copy_159 : decode cX10_copy 159 = .ok (.getfield 106, 3) := by decide +kernel
theorem dX10_copy_162 : decode cX10_copy 162 = .ok (.bipush 60, 2) := by decide +kernel
theorem dX10_copy_164 : decode cX10_copy 164 = .ok (.iload_n 3, 1) := by decide +kernel
theorem dX10_copy_165 : decode cX10_copy 165 = .ok (.imul, 1) := by decide +kernel
theorem dX10_copy_166 : decode cX10_copy 166 = .ok (.iload 4, 2) := by decide +kernel
theorem dX10_copy_168 : decode cX10_copy 168 = .ok (.iadd, 1) := by decide +kernel
theorem dX10_copy_169 : decode cX10_copy 169 = .ok (.iload 6, 2) := by decide +kernel
theorem dX10_copy_171 : decode cX10_copy 171 = .ok (.iadd, 1) := by decide +kernel
theorem dX10_copy_172 : decode cX10_copy 172 = .ok (.aload_n 0, 1) := by decide +kernel
theorem dX10_copy_173 : decode cX10_copy 173 = .ok (.getfield 109, 3) := by decide +kernel
theorem dX10_copy_176 : decode cX10_copy 176 = .ok (.iload 6, 2) := by decide +kernel
theorem dX10_copy_178 : decode cX10_copy 178 = .ok (.laload, 1) := by decide +kernel
theorem dX10_copy_179 : decode cX10_copy 179 = .ok (.lastore, 1) := by decide +kernel
theorem dX10_copy_180 : decode cX10_copy 180 = .ok (.iinc 6 1, 3) := by decide +kernel
theorem dX10_copy_183 : decode cX10_copy 183 = .ok (.goto (-32), 3) := by decide +kernel
theorem dX10_copy_186 : decode cX10_copy 186 = .ok (.iload 5, 2) := by decide +kernel
theorem dX10_copy_188 : decode cX10_copy 188 = .ok (.ireturn, 1) := by decide +kernel
set_option maxRecDepth 20000 in
theorem ggX10_weight_X10_isShelf : GoodIn wsX10_weight wsX10_isShelf := goodIn_r _ [9, 10, 11, 12, 8, 13] (by decide +kernel) (by decide +kernel)
set_option maxRecDepth 20000 in
theorem gX10_weight_X10_isShelf : GoodIn wsX10_weight (wsV RX10 193 RX10 yX10_isShelf wsX10_isShelf) := goodIn_app (goodIn_of _ (by decide +kernel)) ggX10_weight_X10_isShelf
set_option maxRecDepth 20000 in
theorem ggX10_weight_X10_readingsOf : GoodIn wsX10_weight wsX10_readingsOf := goodIn_r _ [17, 18, 19, 20, 21, 8, 22, 27, 28, 29, 30, 31, 32, 33, 34, 35, 36, 37, 38, 39, 40, 41, 42, 43, 44, 45, 46, 47, 48, 49, 50, 51, 52, 53, 54, 55, 56, 57, 58, 59] (by decide +kernel) (by decide +kernel)
set_option maxRecDepth 20000 in
theorem gX10_weight_X10_readingsOf : GoodIn wsX10_weight (wsV RX10 190 RX10 yX10_readingsOf wsX10_readingsOf) := goodIn_app (goodIn_of _ (by decide +kernel)) ggX10_weight_X10_readingsOf
set_option maxRecDepth 20000 in
theorem ggX10_weight_X10_hasAntenna : GoodIn wsX10_weight wsX10_hasAntenna := goodIn_r _ [26, 4, 27, 28, 29, 30, 31, 32, 33, 34, 35, 36, 37, 38, 39, 40, 41, 42, 43, 44, 45, 46, 47, 48, 49, 50, 51, 52, 53, 54, 55, 56, 57, 58, 59] (by decide +kernel) (by decide +kernel)
set_option maxRecDepth 20000 in
theorem gX10_weight_X10_hasAntenna : GoodIn wsX10_weight (wsV RX10 123 RX10 yX10_hasAntenna wsX10_hasAntenna) := goodIn_app (goodIn_of _ (by decide +kernel)) ggX10_weight_X10_hasAntenna
theorem dX10_weight_0 : decode cX10_weight 0 = .ok (.aload_n 0, 1) := by decide +kernel
theorem dX10_weight_1 : decode cX10_weight 1 = .ok (.iload_n 1, 1) := by decide +kernel
theorem dX10_weight_2 : decode cX10_weight 2 = .ok (.invokevirtual 193, 3) := by decide +kernel
theorem dX10_weight_5 : decode cX10_weight 5 = .ok (.ifCond .ne 7, 3) := by decide +kernel
theorem dX10_weight_8 : decode cX10_weight 8 = .ok (.sipush (-1001), 3) := by decide +kernel
theorem dX10_weight_11 : decode cX10_weight 11 = .ok (.ireturn, 1) := by decide +kernel
theorem dX10_weight_12 : decode cX10_weight 12 = .ok (.aload_n 0, 1) := by decide +kernel
theorem dX10_weight_13 : decode cX10_weight 13 = .ok (.getfield 97, 3) := by decide +kernel
theorem dX10_weight_16 : decode cX10_weight 16 = .ok (.iload_n 1, 1) := by decide +kernel
theorem dX10_weight_17 : decode cX10_weight 17 = .ok (.iaload, 1) := by decide +kernel
theorem dX10_weight_18 : decode cX10_weight 18 = .ok (.ifCond .ne 7, 3) := by decide +kernel
theorem dX10_weight_21 : decode cX10_weight 21 = .ok (.sipush (-1011), 3) := by decide +kernel
theorem dX10_weight_24 : decode cX10_weight 24 = .ok (.ireturn, 1) := by decide +kernel
theorem dX10_weight_25 : decode cX10_weight 25 = .ok (.aload_n 0, 1) := by decide +kernel
theorem dX10_weight_26 : decode cX10_weight 26 = .ok (.getfield 97, 3) := by decide +kernel
theorem dX10_weight_29 : decode cX10_weight 29 = .ok (.iload_n 1, 1) := by decide +kernel
theorem dX10_weight_30 : decode cX10_weight 30 = .ok (.iaload, 1) := by decide +kernel
theorem dX10_weight_31 : decode cX10_weight 31 = .ok (.iconst 1, 1) := by decide +kernel
theorem dX10_weight_32 : decode cX10_weight 32 = .ok (.if_icmp .eq 7, 3) := by decide +kernel
theorem dX10_weight_35 : decode cX10_weight 35 = .ok (.sipush (-1012), 3) := by decide +kernel
theorem dX10_weight_38 : decode cX10_weight 38 = .ok (.ireturn, 1) := by decide +kernel
theorem dX10_weight_39 : decode cX10_weight 39 = .ok (.aload_n 0, 1) := by decide +kernel
theorem dX10_weight_40 : decode cX10_weight 40 = .ok (.getfield 100, 3) := by decide +kernel
theorem dX10_weight_43 : decode cX10_weight 43 = .ok (.iload_n 1, 1) := by decide +kernel
theorem dX10_weight_44 : decode cX10_weight 44 = .ok (.iaload, 1) := by decide +kernel
theorem dX10_weight_45 : decode cX10_weight 45 = .ok (.istore_n 2, 1) := by decide +kernel
theorem dX10_weight_46 : decode cX10_weight 46 = .ok (.bipush 10, 2) := by decide +kernel
theorem dX10_weight_48 : decode cX10_weight 48 = .ok (.aload_n 0, 1) := by decide +kernel
theorem dX10_weight_49 : decode cX10_weight 49 = .ok (.iload_n 2, 1) := by decide +kernel
theorem dX10_weight_50 : decode cX10_weight 50 = .ok (.invokevirtual 190, 3) := by decide +kernel
theorem dX10_weight_53 : decode cX10_weight 53 = .ok (.iadd, 1) := by decide +kernel
theorem dX10_weight_54 : decode cX10_weight 54 = .ok (.aload_n 0, 1) := by decide +kernel
theorem dX10_weight_55 : decode cX10_weight 55 = .ok (.iload_n 2, 1) := by decide +kernel
theorem dX10_weight_56 : decode cX10_weight 56 = .ok (.invokevirtual 123, 3) := by decide +kernel
theorem dX10_weight_59 : decode cX10_weight 59 = .ok (.ifCond .eq 15, 3) := by decide +kernel
theorem dX10_weight_62 : decode cX10_weight 62 = .ok (.aload_n 0, 1) := by decide +kernel
theorem dX10_weight_63 : decode cX10_weight 63 = .ok (.getfield 26, 3) := by decide +kernel
theorem dX10_weight_66 : decode cX10_weight 66 = .ok (.iload_n 2, 1) := by decide +kernel
theorem dX10_weight_67 : decode cX10_weight 67 = .ok (.iaload, 1) := by decide +kernel
theorem dX10_weight_68 : decode cX10_weight 68 = .ok (.bipush 100, 2) := by decide +kernel
theorem dX10_weight_70 : decode cX10_weight 70 = .ok (.iadd, 1) := by decide +kernel
theorem dX10_weight_71 : decode cX10_weight 71 = .ok (.goto 4, 3) := by decide +kernel
theorem dX10_weight_74 : decode cX10_weight 74 = .ok (.iconst 0, 1) := by decide +kernel
theorem dX10_weight_75 : decode cX10_weight 75 = .ok (.iadd, 1) := by decide +kernel
theorem dX10_weight_76 : decode cX10_weight 76 = .ok (.aload_n 0, 1) := by decide +kernel
theorem dX10_weight_77 : decode cX10_weight 77 = .ok (.getfield 16, 3) := by decide +kernel
theorem dX10_weight_80 : decode cX10_weight 80 = .ok (.iload_n 2, 1) := by decide +kernel
theorem dX10_weight_81 : decode cX10_weight 81 = .ok (.iaload, 1) := by decide +kernel
theorem dX10_weight_82 : decode cX10_weight 82 = .ok (.iconst 3, 1) := by decide +kernel
theorem dX10_weight_83 : decode cX10_weight 83 = .ok (.if_icmp .ne 8, 3) := by decide +kernel
theorem dX10_weight_86 : decode cX10_weight 86 = .ok (.bipush 7, 2) := by decide +kernel
theorem dX10_weight_88 : decode cX10_weight 88 = .ok (.goto 4, 3) := by decide +kernel
theorem dX10_weight_91 : decode cX10_weight 91 = .ok (.iconst 0, 1) := by decide +kernel
theorem dX10_weight_92 : decode cX10_weight 92 = .ok (.iadd, 1) := by decide +kernel
theorem dX10_weight_93 : decode cX10_weight 93 = .ok (.istore_n 3, 1) := by decide +kernel
theorem dX10_weight_94 : decode cX10_weight 94 = .ok (.aload_n 0, 1) := by decide +kernel
theorem dX10_weight_95 : decode cX10_weight 95 = .ok (.getfield 16, 3) := by decide +kernel
theorem dX10_weight_98 : decode cX10_weight 98 = .ok (.iload_n 2, 1) := by decide +kernel
theorem dX10_weight_99 : decode cX10_weight 99 = .ok (.iaload, 1) := by decide +kernel
theorem dX10_weight_100 : decode cX10_weight 100 = .ok (.iconst 2, 1) := by decide +kernel
theorem dX10_weight_101 : decode cX10_weight 101 = .ok (.if_icmp .ne 9, 3) := by decide +kernel
theorem dX10_weight_104 : decode cX10_weight 104 = .ok (.iconst 2, 1) := by decide +kernel
theorem dX10_weight_105 : decode cX10_weight 105 = .ok (.iload_n 3, 1) := by decide +kernel
theorem dX10_weight_106 : decode cX10_weight 106 = .ok (.imul, 1) := by decide +kernel
theorem dX10_weight_107 : decode cX10_weight 107 = .ok (.goto 4, 3) := by decide +kernel
theorem dX10_weight_110 : decode cX10_weight 110 = .ok (.iload_n 3, 1) := by decide +kernel
theorem dX10_weight_111 : decode cX10_weight 111 = .ok (.ireturn, 1) := by decide +kernel
set_option maxRecDepth 20000 in
theorem ggX10_toss_X10_isShelf : GoodIn wsX10_toss wsX10_isShelf := goodIn_r _ [7, 8, 9, 10, 6, 11] (by decide +kernel) (by decide +kernel)
set_option maxRecDepth 20000 in
theorem gX10_toss_X10_isShelf : GoodIn wsX10_toss (wsV RX10 193 RX10 yX10_isShelf wsX10_isShelf) := goodIn_app (goodIn_of _ (by decide +kernel)) ggX10_toss_X10_isShelf
set_option maxRecDepth 20000 in
theorem ggX10_toss_X10_hasAntenna : GoodIn wsX10_toss wsX10_hasAntenna := goodIn_r _ [15, 16, 17, 18, 19, 20, 21, 22, 23, 24, 25, 26, 27, 28, 29, 30, 31, 32, 33, 34, 35, 36, 37, 38, 39, 40, 41, 42, 43, 44, 45, 46, 47, 48, 49] (by decide +kernel) (by decide +kernel)
set_option maxRecDepth 20000 in
theorem gX10_toss_X10_hasAntenna : GoodIn wsX10_toss (wsV RX10 123 RX10 yX10_hasAntenna wsX10_hasAntenna) := goodIn_app (goodIn_of _ (by decide +kernel)) ggX10_toss_X10_hasAntenna
theorem dX10_toss_0 : decode cX10_toss 0 = .ok (.aload_n 0, 1) := by decide +kernel
theorem dX10_toss_1 : decode cX10_toss 1 = .ok (.iload_n 1, 1) := by decide +kernel
theorem dX10_toss_2 : decode cX10_toss 2 = .ok (.invokevirtual 193, 3) := by decide +kernel
theorem dX10_toss_5 : decode cX10_toss 5 = .ok (.ifCond .ne 5, 3) := by decide +kernel
theorem dX10_toss_8 : decode cX10_toss 8 = .ok (.iconst (-1), 1) := by decide +kernel
theorem dX10_toss_9 : decode cX10_toss 9 = .ok (.ireturn, 1) := by decide +kernel
theorem dX10_toss_10 : decode cX10_toss 10 = .ok (.aload_n 0, 1) := by decide +kernel
theorem dX10_toss_11 : decode cX10_toss 11 = .ok (.getfield 97, 3) := by decide +kernel
theorem dX10_toss_14 : decode cX10_toss 14 = .ok (.iload_n 1, 1) := by decide +kernel
theorem dX10_toss_15 : decode cX10_toss 15 = .ok (.iaload, 1) := by decide +kernel
theorem dX10_toss_16 : decode cX10_toss 16 = .ok (.ifCond .ne 6, 3) := by decide +kernel
theorem dX10_toss_19 : decode cX10_toss 19 = .ok (.bipush (-11), 2) := by decide +kernel
theorem dX10_toss_21 : decode cX10_toss 21 = .ok (.ireturn, 1) := by decide +kernel
theorem dX10_toss_22 : decode cX10_toss 22 = .ok (.aload_n 0, 1) := by decide +kernel
theorem dX10_toss_23 : decode cX10_toss 23 = .ok (.getfield 97, 3) := by decide +kernel
theorem dX10_toss_26 : decode cX10_toss 26 = .ok (.iload_n 1, 1) := by decide +kernel
theorem dX10_toss_27 : decode cX10_toss 27 = .ok (.iaload, 1) := by decide +kernel
theorem dX10_toss_28 : decode cX10_toss 28 = .ok (.iconst 1, 1) := by decide +kernel
theorem dX10_toss_29 : decode cX10_toss 29 = .ok (.if_icmp .eq 6, 3) := by decide +kernel
theorem dX10_toss_32 : decode cX10_toss 32 = .ok (.bipush (-12), 2) := by decide +kernel
theorem dX10_toss_34 : decode cX10_toss 34 = .ok (.ireturn, 1) := by decide +kernel
theorem dX10_toss_35 : decode cX10_toss 35 = .ok (.aload_n 0, 1) := by decide +kernel
theorem dX10_toss_36 : decode cX10_toss 36 = .ok (.aload_n 0, 1) := by decide +kernel
theorem dX10_toss_37 : decode cX10_toss 37 = .ok (.getfield 100, 3) := by decide +kernel
theorem dX10_toss_40 : decode cX10_toss 40 = .ok (.iload_n 1, 1) := by decide +kernel
theorem dX10_toss_41 : decode cX10_toss 41 = .ok (.iaload, 1) := by decide +kernel
theorem dX10_toss_42 : decode cX10_toss 42 = .ok (.invokevirtual 123, 3) := by decide +kernel
theorem dX10_toss_45 : decode cX10_toss 45 = .ok (.ifCond .eq 12, 3) := by decide +kernel
theorem dX10_toss_48 : decode cX10_toss 48 = .ok (.aload_n 0, 1) := by decide +kernel
theorem dX10_toss_49 : decode cX10_toss 49 = .ok (.getfield 100, 3) := by decide +kernel
theorem dX10_toss_52 : decode cX10_toss 52 = .ok (.iload_n 1, 1) := by decide +kernel
theorem dX10_toss_53 : decode cX10_toss 53 = .ok (.iaload, 1) := by decide +kernel
theorem dX10_toss_54 : decode cX10_toss 54 = .ok (.goto 5, 3) := by decide +kernel
theorem dX10_toss_57 : decode cX10_toss 57 = .ok (.bipush (-15), 2) := by decide +kernel
theorem dX10_toss_59 : decode cX10_toss 59 = .ok (.ireturn, 1) := by decide +kernel
end
section
/-! the state: ints of the objects (tag, number, field), int and boolean rows, long rows, how many marks, their kinds, the marks on shelves -/
abbrev Sg : Type := (Nat → Nat → Nat → Int32) × (Nat → Nat → Nat → Int32) × (Nat → Nat → Nat → Int64) × Nat × (Nat → Nat) × (Nat → Option Nat)
def gI (S : Sg) (t k : Nat) : Nat → Int32 := S.1 t k
def gA (S : Sg) (t k : Nat) : Nat → Int32 := S.2.1 t k
def gL (S : Sg) (t k : Nat) : Nat → Int64 := S.2.2.1 t k
def nM (S : Sg) : Nat := S.2.2.2.1
def kM (S : Sg) : Nat → Nat := S.2.2.2.2.1
def sM (S : Sg) : Nat → Option Nat := S.2.2.2.2.2
def uI (S : Sg) (t k f : Nat) (v : Int32) : Sg := (fun a b => if a = t ∧ b = k then upd (S.1 t k) f v else S.1 a b, S.2)
def uA (S : Sg) (t k i : Nat) (v : Int32) : Sg := (S.1, fun a b => if a = t ∧ b = k then upd (S.2.1 t k) i v else S.2.1 a b, S.2.2)
def uL (S : Sg) (t k i : Nat) (v : Int64) : Sg := (S.1, S.2.1, fun a b => if a = t ∧ b = k then vp_updL (S.2.2.1 t k) i v else S.2.2.1 a b, S.2.2.2)
def uH (S : Sg) (d : Nat) (r : Option Nat) : Sg := (S.1, S.2.1, S.2.2.1, S.2.2.2.1, S.2.2.2.2.1, va_up S.2.2.2.2.2 d r)
theorem gI_uI (S : Sg) (t k f : Nat) (v : Int32) (a b : Nat) : gI (uI S t k f v) a b = if a = t ∧ b = k then upd (gI S t k) f v else gI S a b := rfl
theorem gA_uA (S : Sg) (t k i : Nat) (v : Int32) (a b : Nat) : gA (uA S t k i v) a b = if a = t ∧ b = k then upd (gA S t k) i v else gA S a b := rfl
theorem gL_uL (S : Sg) (t k i : Nat) (v : Int64) (a b : Nat) : gL (uL S t k i v) a b = if a = t ∧ b = k then vp_updL (gL S t k) i v else gL S a b := rfl
theorem gA_uI (S : Sg) (t k f : Nat) (v : Int32) : gA (uI S t k f v) = gA S := rfl
theorem gL_uI (S : Sg) (t k f : Nat) (v : Int32) : gL (uI S t k f v) = gL S := rfl
theorem gI_uA (S : Sg) (t k f : Nat) (v : Int32) : gI (uA S t k f v) = gI S := rfl
theorem gL_uA (S : Sg) (t k f : Nat) (v : Int32) : gL (uA S t k f v) = gL S := rfl
theorem gI_uL (S : Sg) (t k f : Nat) (v : Int64) : gI (uL S t k f v) = gI S := rfl
theorem gA_uL (S : Sg) (t k f : Nat) (v : Int64) : gA (uL S t k f v) = gA S := rfl
theorem nM_uI (S : Sg) (t k f : Nat) (v : Int32) : nM (uI S t k f v) = nM S := rfl
theorem nM_uA (S : Sg) (t k f : Nat) (v : Int32) : nM (uA S t k f v) = nM S := rfl
theorem nM_uL (S : Sg) (t k f : Nat) (v : Int64) : nM (uL S t k f v) = nM S := rfl
theorem gI_same (S : Sg) (t k f : Nat) (v : Int32) : gI (uI S t k f v) t k = upd (gI S t k) f v := by rw [gI_uI, if_pos ⟨rfl, rfl⟩]
theorem gA_same (S : Sg) (t k i : Nat) (v : Int32) : gA (uA S t k i v) t k = upd (gA S t k) i v := by rw [gA_uA, if_pos ⟨rfl, rfl⟩]
theorem gL_same (S : Sg) (t k i : Nat) (v : Int64) : gL (uL S t k i v) t k = vp_updL (gL S t k) i v := by rw [gL_uL, if_pos ⟨rfl, rfl⟩]
def cl0 (cA : Nat → ClassId) (ad : Nat → Nat → Nat) (I : Nat → Int32) (Ar : Nat → Int32) (Lr : Nat → Int64) (n kd : Nat) (sm : Option Nat) (t k : Nat) : va_E :=
    if t = 0 then .inr (9, [.ref (ad 1 0), .ref (ad 3 0), .ref (ad 6 0), .ref (ad 11 0), .ref (ad 14 0), .ref (ad 2 0), .int (I 6), .int (I 7)]) else
    if t = 1 then .inl (cA 3, 10, .inr (.inr (.inr (.inr (fun j => if j < n then some (ad 26 j) else none))))) else
    if t = 2 then .inl (cA 4, 8, .inr (.inr (.inr (.inr (fun j => some (ad 24 j)))))) else
    if t = 3 then .inr (5, [.ref (ad 4 0), .ref (ad 5 0), .int (I 2)]) else
    if t = 4 then .inl (cA 0, 40, .inl Ar) else
    if t = 5 then .inl (cA 2, 40, .inr (.inl Lr)) else
    if t = 6 then .inr (0, [.ref (ad 7 0), .ref (ad 8 0), .ref (ad 9 0), .ref (ad 10 0), .int (I 4), .int (I 5)]) else
    if t = 7 then .inl (cA 1, 1024, .inl Ar) else
    if t = 8 then .inl (cA 0, 1024, .inl Ar) else
    if t = 9 then .inl (cA 0, 1024, .inl Ar) else
    if t = 10 then .inl (cA 0, 10, .inl Ar) else
    if t = 11 then .inr (7, [.ref (ad 12 0), .ref (ad 13 0), .int (I 2), .int (I 3), .int (I 4), .int (I 5)]) else
    if t = 12 then .inl (cA 0, 3, .inl Ar) else
    if t = 13 then .inl (cA 0, 3, .inl Ar) else
    if t = 14 then .inr (2, [.ref (ad 15 0), .ref (ad 16 0), .ref (ad 17 0), .int (I 3), .ref (ad 18 0), .ref (ad 20 0), .ref (ad 22 0), .ref (ad 23 0), .int (I 8), .int (I 9), .int (I 10)]) else
    if t = 15 then .inl (cA 0, 14, .inl Ar) else
    if t = 16 then .inl (cA 0, 14, .inl Ar) else
    if t = 17 then .inl (cA 0, 14, .inl Ar) else
    if t = 18 then .inl (cA 5, 10, .inr (.inr (.inr (.inr (fun j => some (ad 19 j)))))) else
    if t = 19 then .inl (cA 0, 10, .inl Ar) else
    if t = 20 then .inl (cA 5, 10, .inr (.inr (.inr (.inr (fun j => some (ad 21 j)))))) else
    if t = 21 then .inl (cA 0, 10, .inl Ar) else
    if t = 22 then .inl (cA 0, 10, .inl Ar) else
    if t = 23 then .inl (cA 0, 10, .inl Ar) else
    if t = 24 then .inr (6, [.ref (ad 25 k), .int (I 1), .int (I 2), va_rf (sm.map (fun j => ad 26 j))]) else
    if t = 25 then .inl (cA 2, 60, .inr (.inl Lr)) else
    if t = 26 then if kd = 0 then .inr (3, [.int (I 0), .int (I 1), .int (I 2), .ref (ad 27 k), .ref (ad 28 k), .ref (ad 30 k), .ref (ad 31 k), .ref (ad 33 k), .ref (ad 34 k), .int (I 3), .int (I 4)]) else if kd = 1 then .inr (4, [.int (I 0), .int (I 1), .int (I 2), .ref (ad 27 k), .ref (ad 28 k), .ref (ad 30 k), .ref (ad 31 k), .ref (ad 33 k), .ref (ad 34 k), .int (I 3), .int (I 4), .int (I 5), .int (I 6)]) else if kd = 2 then .inr (8, [.int (I 5), .int (I 6), .int (I 0), .int (I 1), .int (I 2), .ref (ad 27 k), .ref (ad 28 k), .ref (ad 30 k), .ref (ad 31 k), .ref (ad 33 k), .ref (ad 34 k), .int (I 3), .int (I 4)]) else .inr (1, [.int (I 0), .int (I 1), .int (I 2), .ref (ad 27 k), .ref (ad 28 k), .ref (ad 30 k), .ref (ad 31 k), .ref (ad 33 k), .ref (ad 34 k), .int (I 3), .int (I 4)]) else
    if t = 27 then .inl (cA 1, 40, .inl Ar) else
    if t = 28 then .inl (cA 5, 2, .inr (.inr (.inr (.inr (fun j => some (ad 29 (2 * k + j))))))) else
    if t = 29 then .inl (cA 0, 40, .inl Ar) else
    if t = 30 then .inl (cA 0, 10, .inl Ar) else
    if t = 31 then .inl (cA 5, 2, .inr (.inr (.inr (.inr (fun j => some (ad 32 (2 * k + j))))))) else
    if t = 32 then .inl (cA 0, 10, .inl Ar) else
    if t = 33 then .inl (cA 0, 2, .inl Ar) else
    if t = 34 then .inl (cA 0, 3, .inl Ar) else
    if t = 39 then .inl (cA 2, 1, .inr (.inl Lr)) else
    if t = 40 then .inr (10, [.int (I 0), .int (I 1), .ref (ad 41 0), .ref (ad 42 0), .ref (ad 43 0), .ref (ad 44 0), .ref (ad 45 0), .ref (ad 46 0), .ref (ad 47 0), .ref (ad 48 0), .ref (ad 49 0), .ref (ad 50 0), .ref (ad 51 0), .ref (ad 52 0), .ref (ad 53 0), .ref (ad 54 0), .ref (ad 55 0), .int (I 17), .ref (ad 56 0), .int (I 19), .ref (ad 57 0), .ref (ad 58 0), .int (I 22), .ref (ad 59 0), .ref (ad 60 0), .ref (ad 61 0), .ref (ad 62 0), .ref (ad 63 0), .ref (ad 64 0), .ref (ad 65 0), .ref (ad 66 0), .ref (ad 67 0), .ref (ad 68 0)]) else
    if t = 41 then .inl (cA 0, 10, .inl Ar) else
    if t = 42 then .inl (cA 0, 10, .inl Ar) else
    if t = 43 then .inl (cA 0, 10, .inl Ar) else
    if t = 44 then .inl (cA 0, 10, .inl Ar) else
    if t = 45 then .inl (cA 0, 10, .inl Ar) else
    if t = 46 then .inl (cA 0, 10, .inl Ar) else
    if t = 47 then .inl (cA 1, 400, .inl Ar) else
    if t = 48 then .inl (cA 0, 800, .inl Ar) else
    if t = 49 then .inl (cA 0, 100, .inl Ar) else
    if t = 50 then .inl (cA 0, 200, .inl Ar) else
    if t = 51 then .inl (cA 0, 10, .inl Ar) else
    if t = 52 then .inl (cA 0, 10, .inl Ar) else
    if t = 53 then .inl (cA 0, 1024, .inl Ar) else
    if t = 54 then .inl (cA 0, 10, .inl Ar) else
    if t = 55 then .inl (cA 1, 1024, .inl Ar) else
    if t = 56 then .inl (cA 0, 30, .inl Ar) else
    if t = 57 then .inl (cA 0, 3, .inl Ar) else
    if t = 58 then .inl (cA 0, 3, .inl Ar) else
    if t = 59 then .inl (cA 0, 14, .inl Ar) else
    if t = 60 then .inl (cA 0, 14, .inl Ar) else
    if t = 61 then .inl (cA 0, 14, .inl Ar) else
    if t = 62 then .inl (cA 0, 10, .inl Ar) else
    if t = 63 then .inl (cA 2, 10, .inr (.inl Lr)) else
    if t = 64 then .inl (cA 0, 8, .inl Ar) else
    if t = 65 then .inl (cA 0, 8, .inl Ar) else
    if t = 66 then .inl (cA 0, 8, .inl Ar) else
    if t = 67 then .inl (cA 2, 480, .inr (.inl Lr)) else
    .inl (cA 2, 60, .inr (.inl Lr))
def cel (cA : Nat → ClassId) (ad : Nat → Nat → Nat) (S : Sg) (t k : Nat) : va_E := cl0 cA ad (gI S t k) (gA S t k) (gL S t k) (nM S) (kM S k) (sM S k) t k
theorem cel_congr {cA : Nat → ClassId} {ad : Nat → Nat → Nat} {S S' : Sg} {t k : Nat} (h1 : gI S' t k = gI S t k) (h2 : gA S' t k = gA S t k) (h3 : gL S' t k = gL S t k) (h4 : nM S' = nM S) (h5 : kM S' k = kM S k) (h6 : sM S' k = sM S k) : cel cA ad S' t k = cel cA ad S t k := by
  unfold cel
  rw [h1, h2, h3, h4, h5, h6]
theorem cel_uI {cA : Nat → ClassId} {ad : Nat → Nat → Nat} {S : Sg} {t k f a b : Nat} {v : Int32} (h : ¬ (a = t ∧ b = k)) : cel cA ad (uI S t k f v) a b = cel cA ad S a b := cel_congr (by rw [gI_uI, if_neg h]) rfl rfl rfl rfl rfl
theorem cel_uA {cA : Nat → ClassId} {ad : Nat → Nat → Nat} {S : Sg} {t k f a b : Nat} {v : Int32} (h : ¬ (a = t ∧ b = k)) : cel cA ad (uA S t k f v) a b = cel cA ad S a b := cel_congr rfl (by rw [gA_uA, if_neg h]) rfl rfl rfl rfl
theorem cel_uL {cA : Nat → ClassId} {ad : Nat → Nat → Nat} {S : Sg} {t k f a b : Nat} {v : Int64} (h : ¬ (a = t ∧ b = k)) : cel cA ad (uL S t k f v) a b = cel cA ad S a b := cel_congr rfl rfl (by rw [gL_uL, if_neg h]) rfl rfl rfl
theorem cel_0 (cA : Nat → ClassId) (ad : Nat → Nat → Nat) (S : Sg) (k : Nat) : cel cA ad S 0 k = .inr (9, [.ref (ad 1 0), .ref (ad 3 0), .ref (ad 6 0), .ref (ad 11 0), .ref (ad 14 0), .ref (ad 2 0), .int (gI S 0 k 6), .int (gI S 0 k 7)]) := rfl
theorem cel_1 (cA : Nat → ClassId) (ad : Nat → Nat → Nat) (S : Sg) (k : Nat) : cel cA ad S 1 k = .inl (cA 3, 10, .inr (.inr (.inr (.inr (fun j => if j < nM S then some (ad 26 j) else none))))) := rfl
theorem cel_2 (cA : Nat → ClassId) (ad : Nat → Nat → Nat) (S : Sg) (k : Nat) : cel cA ad S 2 k = .inl (cA 4, 8, .inr (.inr (.inr (.inr (fun j => some (ad 24 j)))))) := rfl
theorem cel_3 (cA : Nat → ClassId) (ad : Nat → Nat → Nat) (S : Sg) (k : Nat) : cel cA ad S 3 k = .inr (5, [.ref (ad 4 0), .ref (ad 5 0), .int (gI S 3 k 2)]) := rfl
theorem cel_4 (cA : Nat → ClassId) (ad : Nat → Nat → Nat) (S : Sg) (k : Nat) : cel cA ad S 4 k = .inl (cA 0, 40, .inl (gA S 4 k)) := rfl
theorem cel_5 (cA : Nat → ClassId) (ad : Nat → Nat → Nat) (S : Sg) (k : Nat) : cel cA ad S 5 k = .inl (cA 2, 40, .inr (.inl (gL S 5 k))) := rfl
theorem cel_6 (cA : Nat → ClassId) (ad : Nat → Nat → Nat) (S : Sg) (k : Nat) : cel cA ad S 6 k = .inr (0, [.ref (ad 7 0), .ref (ad 8 0), .ref (ad 9 0), .ref (ad 10 0), .int (gI S 6 k 4), .int (gI S 6 k 5)]) := rfl
theorem cel_7 (cA : Nat → ClassId) (ad : Nat → Nat → Nat) (S : Sg) (k : Nat) : cel cA ad S 7 k = .inl (cA 1, 1024, .inl (gA S 7 k)) := rfl
theorem cel_8 (cA : Nat → ClassId) (ad : Nat → Nat → Nat) (S : Sg) (k : Nat) : cel cA ad S 8 k = .inl (cA 0, 1024, .inl (gA S 8 k)) := rfl
theorem cel_9 (cA : Nat → ClassId) (ad : Nat → Nat → Nat) (S : Sg) (k : Nat) : cel cA ad S 9 k = .inl (cA 0, 1024, .inl (gA S 9 k)) := rfl
theorem cel_10 (cA : Nat → ClassId) (ad : Nat → Nat → Nat) (S : Sg) (k : Nat) : cel cA ad S 10 k = .inl (cA 0, 10, .inl (gA S 10 k)) := rfl
theorem cel_11 (cA : Nat → ClassId) (ad : Nat → Nat → Nat) (S : Sg) (k : Nat) : cel cA ad S 11 k = .inr (7, [.ref (ad 12 0), .ref (ad 13 0), .int (gI S 11 k 2), .int (gI S 11 k 3), .int (gI S 11 k 4), .int (gI S 11 k 5)]) := rfl
theorem cel_12 (cA : Nat → ClassId) (ad : Nat → Nat → Nat) (S : Sg) (k : Nat) : cel cA ad S 12 k = .inl (cA 0, 3, .inl (gA S 12 k)) := rfl
theorem cel_13 (cA : Nat → ClassId) (ad : Nat → Nat → Nat) (S : Sg) (k : Nat) : cel cA ad S 13 k = .inl (cA 0, 3, .inl (gA S 13 k)) := rfl
theorem cel_14 (cA : Nat → ClassId) (ad : Nat → Nat → Nat) (S : Sg) (k : Nat) : cel cA ad S 14 k = .inr (2, [.ref (ad 15 0), .ref (ad 16 0), .ref (ad 17 0), .int (gI S 14 k 3), .ref (ad 18 0), .ref (ad 20 0), .ref (ad 22 0), .ref (ad 23 0), .int (gI S 14 k 8), .int (gI S 14 k 9), .int (gI S 14 k 10)]) := rfl
theorem cel_15 (cA : Nat → ClassId) (ad : Nat → Nat → Nat) (S : Sg) (k : Nat) : cel cA ad S 15 k = .inl (cA 0, 14, .inl (gA S 15 k)) := rfl
theorem cel_16 (cA : Nat → ClassId) (ad : Nat → Nat → Nat) (S : Sg) (k : Nat) : cel cA ad S 16 k = .inl (cA 0, 14, .inl (gA S 16 k)) := rfl
theorem cel_17 (cA : Nat → ClassId) (ad : Nat → Nat → Nat) (S : Sg) (k : Nat) : cel cA ad S 17 k = .inl (cA 0, 14, .inl (gA S 17 k)) := rfl
theorem cel_18 (cA : Nat → ClassId) (ad : Nat → Nat → Nat) (S : Sg) (k : Nat) : cel cA ad S 18 k = .inl (cA 5, 10, .inr (.inr (.inr (.inr (fun j => some (ad 19 j)))))) := rfl
theorem cel_19 (cA : Nat → ClassId) (ad : Nat → Nat → Nat) (S : Sg) (k : Nat) : cel cA ad S 19 k = .inl (cA 0, 10, .inl (gA S 19 k)) := rfl
theorem cel_20 (cA : Nat → ClassId) (ad : Nat → Nat → Nat) (S : Sg) (k : Nat) : cel cA ad S 20 k = .inl (cA 5, 10, .inr (.inr (.inr (.inr (fun j => some (ad 21 j)))))) := rfl
theorem cel_21 (cA : Nat → ClassId) (ad : Nat → Nat → Nat) (S : Sg) (k : Nat) : cel cA ad S 21 k = .inl (cA 0, 10, .inl (gA S 21 k)) := rfl
theorem cel_22 (cA : Nat → ClassId) (ad : Nat → Nat → Nat) (S : Sg) (k : Nat) : cel cA ad S 22 k = .inl (cA 0, 10, .inl (gA S 22 k)) := rfl
theorem cel_23 (cA : Nat → ClassId) (ad : Nat → Nat → Nat) (S : Sg) (k : Nat) : cel cA ad S 23 k = .inl (cA 0, 10, .inl (gA S 23 k)) := rfl
theorem cel_24 (cA : Nat → ClassId) (ad : Nat → Nat → Nat) (S : Sg) (k : Nat) : cel cA ad S 24 k = .inr (6, [.ref (ad 25 k), .int (gI S 24 k 1), .int (gI S 24 k 2), va_rf ((sM S k).map (fun j => ad 26 j))]) := rfl
theorem cel_25 (cA : Nat → ClassId) (ad : Nat → Nat → Nat) (S : Sg) (k : Nat) : cel cA ad S 25 k = .inl (cA 2, 60, .inr (.inl (gL S 25 k))) := rfl
theorem cel_26 (cA : Nat → ClassId) (ad : Nat → Nat → Nat) (S : Sg) (k : Nat) : cel cA ad S 26 k = if kM S k = 0 then .inr (3, [.int (gI S 26 k 0), .int (gI S 26 k 1), .int (gI S 26 k 2), .ref (ad 27 k), .ref (ad 28 k), .ref (ad 30 k), .ref (ad 31 k), .ref (ad 33 k), .ref (ad 34 k), .int (gI S 26 k 3), .int (gI S 26 k 4)]) else if kM S k = 1 then .inr (4, [.int (gI S 26 k 0), .int (gI S 26 k 1), .int (gI S 26 k 2), .ref (ad 27 k), .ref (ad 28 k), .ref (ad 30 k), .ref (ad 31 k), .ref (ad 33 k), .ref (ad 34 k), .int (gI S 26 k 3), .int (gI S 26 k 4), .int (gI S 26 k 5), .int (gI S 26 k 6)]) else if kM S k = 2 then .inr (8, [.int (gI S 26 k 5), .int (gI S 26 k 6), .int (gI S 26 k 0), .int (gI S 26 k 1), .int (gI S 26 k 2), .ref (ad 27 k), .ref (ad 28 k), .ref (ad 30 k), .ref (ad 31 k), .ref (ad 33 k), .ref (ad 34 k), .int (gI S 26 k 3), .int (gI S 26 k 4)]) else .inr (1, [.int (gI S 26 k 0), .int (gI S 26 k 1), .int (gI S 26 k 2), .ref (ad 27 k), .ref (ad 28 k), .ref (ad 30 k), .ref (ad 31 k), .ref (ad 33 k), .ref (ad 34 k), .int (gI S 26 k 3), .int (gI S 26 k 4)]) := rfl
theorem cel_27 (cA : Nat → ClassId) (ad : Nat → Nat → Nat) (S : Sg) (k : Nat) : cel cA ad S 27 k = .inl (cA 1, 40, .inl (gA S 27 k)) := rfl
theorem cel_28 (cA : Nat → ClassId) (ad : Nat → Nat → Nat) (S : Sg) (k : Nat) : cel cA ad S 28 k = .inl (cA 5, 2, .inr (.inr (.inr (.inr (fun j => some (ad 29 (2 * k + j))))))) := rfl
theorem cel_29 (cA : Nat → ClassId) (ad : Nat → Nat → Nat) (S : Sg) (k : Nat) : cel cA ad S 29 k = .inl (cA 0, 40, .inl (gA S 29 k)) := rfl
theorem cel_30 (cA : Nat → ClassId) (ad : Nat → Nat → Nat) (S : Sg) (k : Nat) : cel cA ad S 30 k = .inl (cA 0, 10, .inl (gA S 30 k)) := rfl
theorem cel_31 (cA : Nat → ClassId) (ad : Nat → Nat → Nat) (S : Sg) (k : Nat) : cel cA ad S 31 k = .inl (cA 5, 2, .inr (.inr (.inr (.inr (fun j => some (ad 32 (2 * k + j))))))) := rfl
theorem cel_32 (cA : Nat → ClassId) (ad : Nat → Nat → Nat) (S : Sg) (k : Nat) : cel cA ad S 32 k = .inl (cA 0, 10, .inl (gA S 32 k)) := rfl
theorem cel_33 (cA : Nat → ClassId) (ad : Nat → Nat → Nat) (S : Sg) (k : Nat) : cel cA ad S 33 k = .inl (cA 0, 2, .inl (gA S 33 k)) := rfl
theorem cel_34 (cA : Nat → ClassId) (ad : Nat → Nat → Nat) (S : Sg) (k : Nat) : cel cA ad S 34 k = .inl (cA 0, 3, .inl (gA S 34 k)) := rfl
theorem cel_39 (cA : Nat → ClassId) (ad : Nat → Nat → Nat) (S : Sg) (k : Nat) : cel cA ad S 39 k = .inl (cA 2, 1, .inr (.inl (gL S 39 k))) := rfl
theorem cel_40 (cA : Nat → ClassId) (ad : Nat → Nat → Nat) (S : Sg) (k : Nat) : cel cA ad S 40 k = .inr (10, [.int (gI S 40 k 0), .int (gI S 40 k 1), .ref (ad 41 0), .ref (ad 42 0), .ref (ad 43 0), .ref (ad 44 0), .ref (ad 45 0), .ref (ad 46 0), .ref (ad 47 0), .ref (ad 48 0), .ref (ad 49 0), .ref (ad 50 0), .ref (ad 51 0), .ref (ad 52 0), .ref (ad 53 0), .ref (ad 54 0), .ref (ad 55 0), .int (gI S 40 k 17), .ref (ad 56 0), .int (gI S 40 k 19), .ref (ad 57 0), .ref (ad 58 0), .int (gI S 40 k 22), .ref (ad 59 0), .ref (ad 60 0), .ref (ad 61 0), .ref (ad 62 0), .ref (ad 63 0), .ref (ad 64 0), .ref (ad 65 0), .ref (ad 66 0), .ref (ad 67 0), .ref (ad 68 0)]) := rfl
theorem cel_41 (cA : Nat → ClassId) (ad : Nat → Nat → Nat) (S : Sg) (k : Nat) : cel cA ad S 41 k = .inl (cA 0, 10, .inl (gA S 41 k)) := rfl
theorem cel_42 (cA : Nat → ClassId) (ad : Nat → Nat → Nat) (S : Sg) (k : Nat) : cel cA ad S 42 k = .inl (cA 0, 10, .inl (gA S 42 k)) := rfl
theorem cel_43 (cA : Nat → ClassId) (ad : Nat → Nat → Nat) (S : Sg) (k : Nat) : cel cA ad S 43 k = .inl (cA 0, 10, .inl (gA S 43 k)) := rfl
theorem cel_44 (cA : Nat → ClassId) (ad : Nat → Nat → Nat) (S : Sg) (k : Nat) : cel cA ad S 44 k = .inl (cA 0, 10, .inl (gA S 44 k)) := rfl
theorem cel_45 (cA : Nat → ClassId) (ad : Nat → Nat → Nat) (S : Sg) (k : Nat) : cel cA ad S 45 k = .inl (cA 0, 10, .inl (gA S 45 k)) := rfl
theorem cel_46 (cA : Nat → ClassId) (ad : Nat → Nat → Nat) (S : Sg) (k : Nat) : cel cA ad S 46 k = .inl (cA 0, 10, .inl (gA S 46 k)) := rfl
theorem cel_47 (cA : Nat → ClassId) (ad : Nat → Nat → Nat) (S : Sg) (k : Nat) : cel cA ad S 47 k = .inl (cA 1, 400, .inl (gA S 47 k)) := rfl
theorem cel_48 (cA : Nat → ClassId) (ad : Nat → Nat → Nat) (S : Sg) (k : Nat) : cel cA ad S 48 k = .inl (cA 0, 800, .inl (gA S 48 k)) := rfl
theorem cel_49 (cA : Nat → ClassId) (ad : Nat → Nat → Nat) (S : Sg) (k : Nat) : cel cA ad S 49 k = .inl (cA 0, 100, .inl (gA S 49 k)) := rfl
theorem cel_50 (cA : Nat → ClassId) (ad : Nat → Nat → Nat) (S : Sg) (k : Nat) : cel cA ad S 50 k = .inl (cA 0, 200, .inl (gA S 50 k)) := rfl
theorem cel_51 (cA : Nat → ClassId) (ad : Nat → Nat → Nat) (S : Sg) (k : Nat) : cel cA ad S 51 k = .inl (cA 0, 10, .inl (gA S 51 k)) := rfl
theorem cel_52 (cA : Nat → ClassId) (ad : Nat → Nat → Nat) (S : Sg) (k : Nat) : cel cA ad S 52 k = .inl (cA 0, 10, .inl (gA S 52 k)) := rfl
theorem cel_53 (cA : Nat → ClassId) (ad : Nat → Nat → Nat) (S : Sg) (k : Nat) : cel cA ad S 53 k = .inl (cA 0, 1024, .inl (gA S 53 k)) := rfl
theorem cel_54 (cA : Nat → ClassId) (ad : Nat → Nat → Nat) (S : Sg) (k : Nat) : cel cA ad S 54 k = .inl (cA 0, 10, .inl (gA S 54 k)) := rfl
theorem cel_55 (cA : Nat → ClassId) (ad : Nat → Nat → Nat) (S : Sg) (k : Nat) : cel cA ad S 55 k = .inl (cA 1, 1024, .inl (gA S 55 k)) := rfl
theorem cel_56 (cA : Nat → ClassId) (ad : Nat → Nat → Nat) (S : Sg) (k : Nat) : cel cA ad S 56 k = .inl (cA 0, 30, .inl (gA S 56 k)) := rfl
theorem cel_57 (cA : Nat → ClassId) (ad : Nat → Nat → Nat) (S : Sg) (k : Nat) : cel cA ad S 57 k = .inl (cA 0, 3, .inl (gA S 57 k)) := rfl
theorem cel_58 (cA : Nat → ClassId) (ad : Nat → Nat → Nat) (S : Sg) (k : Nat) : cel cA ad S 58 k = .inl (cA 0, 3, .inl (gA S 58 k)) := rfl
theorem cel_59 (cA : Nat → ClassId) (ad : Nat → Nat → Nat) (S : Sg) (k : Nat) : cel cA ad S 59 k = .inl (cA 0, 14, .inl (gA S 59 k)) := rfl
theorem cel_60 (cA : Nat → ClassId) (ad : Nat → Nat → Nat) (S : Sg) (k : Nat) : cel cA ad S 60 k = .inl (cA 0, 14, .inl (gA S 60 k)) := rfl
theorem cel_61 (cA : Nat → ClassId) (ad : Nat → Nat → Nat) (S : Sg) (k : Nat) : cel cA ad S 61 k = .inl (cA 0, 14, .inl (gA S 61 k)) := rfl
theorem cel_62 (cA : Nat → ClassId) (ad : Nat → Nat → Nat) (S : Sg) (k : Nat) : cel cA ad S 62 k = .inl (cA 0, 10, .inl (gA S 62 k)) := rfl
theorem cel_63 (cA : Nat → ClassId) (ad : Nat → Nat → Nat) (S : Sg) (k : Nat) : cel cA ad S 63 k = .inl (cA 2, 10, .inr (.inl (gL S 63 k))) := rfl
theorem cel_64 (cA : Nat → ClassId) (ad : Nat → Nat → Nat) (S : Sg) (k : Nat) : cel cA ad S 64 k = .inl (cA 0, 8, .inl (gA S 64 k)) := rfl
theorem cel_65 (cA : Nat → ClassId) (ad : Nat → Nat → Nat) (S : Sg) (k : Nat) : cel cA ad S 65 k = .inl (cA 0, 8, .inl (gA S 65 k)) := rfl
theorem cel_66 (cA : Nat → ClassId) (ad : Nat → Nat → Nat) (S : Sg) (k : Nat) : cel cA ad S 66 k = .inl (cA 0, 8, .inl (gA S 66 k)) := rfl
theorem cel_67 (cA : Nat → ClassId) (ad : Nat → Nat → Nat) (S : Sg) (k : Nat) : cel cA ad S 67 k = .inl (cA 2, 480, .inr (.inl (gL S 67 k))) := rfl
theorem cel_68 (cA : Nat → ClassId) (ad : Nat → Nat → Nat) (S : Sg) (k : Nat) : cel cA ad S 68 k = .inl (cA 2, 60, .inr (.inl (gL S 68 k))) := rfl
def fxI : List (Nat × Nat) := [(0, 0), (1, 0), (2, 0), (3, 0), (4, 0), (5, 0), (6, 0), (7, 0), (8, 0), (9, 0), (10, 0), (11, 0), (12, 0), (13, 0), (14, 0), (15, 0), (16, 0), (17, 0), (18, 0), (20, 0), (22, 0), (23, 0), (39, 0), (40, 0), (41, 0), (42, 0), (43, 0), (44, 0), (45, 0), (46, 0), (47, 0), (48, 0), (49, 0), (50, 0), (51, 0), (52, 0), (53, 0), (54, 0), (55, 0), (56, 0), (57, 0), (58, 0), (59, 0), (60, 0), (61, 0), (62, 0), (63, 0), (64, 0), (65, 0), (66, 0), (67, 0), (68, 0)]
def idM (k : Nat) : List (Nat × Nat) := [(26, k), (27, k), (28, k), (29, 2 * k), (29, 2 * k + 1), (30, k), (31, k), (32, 2 * k), (32, 2 * k + 1), (33, k), (34, k)]
def ids (n : Nat) : List (Nat × Nat) := fxI ++ ((List.range 10).flatMap (fun r => [(19, r), (21, r)]) ++ ((List.range 8).flatMap (fun r => [(24, r), (25, r)]) ++ (List.range n).flatMap idM))
theorem ids_fx {n t k : Nat} (h : (t, k) ∈ fxI) : (t, k) ∈ ids n := List.mem_append_left _ h
theorem ids_row {n t r : Nat} (h : r < 10) (ht : t = 19 ∨ t = 21) : (t, r) ∈ ids n := by
  refine List.mem_append_right _ (List.mem_append_left _ (List.mem_flatMap.mpr ⟨r, List.mem_range.mpr h, ?_⟩))
  rcases ht with rfl | rfl
  · exact List.mem_cons_self
  · exact List.mem_cons_of_mem _ List.mem_cons_self
theorem ids_shelf {n t r : Nat} (h : r < 8) (ht : t = 24 ∨ t = 25) : (t, r) ∈ ids n := by
  refine List.mem_append_right _ (List.mem_append_right _ (List.mem_append_left _ (List.mem_flatMap.mpr ⟨r, List.mem_range.mpr h, ?_⟩)))
  rcases ht with rfl | rfl
  · exact List.mem_cons_self
  · exact List.mem_cons_of_mem _ List.mem_cons_self
theorem ids_mark {n t j k : Nat} (h : k < n) (ht : (t, j) ∈ idM k) : (t, j) ∈ ids n := List.mem_append_right _ (List.mem_append_right _ (List.mem_append_right _ (List.mem_flatMap.mpr ⟨k, List.mem_range.mpr h, ht⟩)))
theorem hm_0 {n : Nat} : (0, 0) ∈ ids n := ids_fx (by decide)
theorem hm_1 {n : Nat} : (1, 0) ∈ ids n := ids_fx (by decide)
theorem hm_2 {n : Nat} : (2, 0) ∈ ids n := ids_fx (by decide)
theorem hm_3 {n : Nat} : (3, 0) ∈ ids n := ids_fx (by decide)
theorem hm_4 {n : Nat} : (4, 0) ∈ ids n := ids_fx (by decide)
theorem hm_5 {n : Nat} : (5, 0) ∈ ids n := ids_fx (by decide)
theorem hm_6 {n : Nat} : (6, 0) ∈ ids n := ids_fx (by decide)
theorem hm_7 {n : Nat} : (7, 0) ∈ ids n := ids_fx (by decide)
theorem hm_8 {n : Nat} : (8, 0) ∈ ids n := ids_fx (by decide)
theorem hm_9 {n : Nat} : (9, 0) ∈ ids n := ids_fx (by decide)
theorem hm_10 {n : Nat} : (10, 0) ∈ ids n := ids_fx (by decide)
theorem hm_11 {n : Nat} : (11, 0) ∈ ids n := ids_fx (by decide)
theorem hm_12 {n : Nat} : (12, 0) ∈ ids n := ids_fx (by decide)
theorem hm_13 {n : Nat} : (13, 0) ∈ ids n := ids_fx (by decide)
theorem hm_14 {n : Nat} : (14, 0) ∈ ids n := ids_fx (by decide)
theorem hm_15 {n : Nat} : (15, 0) ∈ ids n := ids_fx (by decide)
theorem hm_16 {n : Nat} : (16, 0) ∈ ids n := ids_fx (by decide)
theorem hm_17 {n : Nat} : (17, 0) ∈ ids n := ids_fx (by decide)
theorem hm_18 {n : Nat} : (18, 0) ∈ ids n := ids_fx (by decide)
theorem hm_20 {n : Nat} : (20, 0) ∈ ids n := ids_fx (by decide)
theorem hm_22 {n : Nat} : (22, 0) ∈ ids n := ids_fx (by decide)
theorem hm_23 {n : Nat} : (23, 0) ∈ ids n := ids_fx (by decide)
theorem hm_39 {n : Nat} : (39, 0) ∈ ids n := ids_fx (by decide)
theorem hm_40 {n : Nat} : (40, 0) ∈ ids n := ids_fx (by decide)
theorem hm_41 {n : Nat} : (41, 0) ∈ ids n := ids_fx (by decide)
theorem hm_42 {n : Nat} : (42, 0) ∈ ids n := ids_fx (by decide)
theorem hm_43 {n : Nat} : (43, 0) ∈ ids n := ids_fx (by decide)
theorem hm_44 {n : Nat} : (44, 0) ∈ ids n := ids_fx (by decide)
theorem hm_45 {n : Nat} : (45, 0) ∈ ids n := ids_fx (by decide)
theorem hm_46 {n : Nat} : (46, 0) ∈ ids n := ids_fx (by decide)
theorem hm_47 {n : Nat} : (47, 0) ∈ ids n := ids_fx (by decide)
theorem hm_48 {n : Nat} : (48, 0) ∈ ids n := ids_fx (by decide)
theorem hm_49 {n : Nat} : (49, 0) ∈ ids n := ids_fx (by decide)
theorem hm_50 {n : Nat} : (50, 0) ∈ ids n := ids_fx (by decide)
theorem hm_51 {n : Nat} : (51, 0) ∈ ids n := ids_fx (by decide)
theorem hm_52 {n : Nat} : (52, 0) ∈ ids n := ids_fx (by decide)
theorem hm_53 {n : Nat} : (53, 0) ∈ ids n := ids_fx (by decide)
theorem hm_54 {n : Nat} : (54, 0) ∈ ids n := ids_fx (by decide)
theorem hm_55 {n : Nat} : (55, 0) ∈ ids n := ids_fx (by decide)
theorem hm_56 {n : Nat} : (56, 0) ∈ ids n := ids_fx (by decide)
theorem hm_57 {n : Nat} : (57, 0) ∈ ids n := ids_fx (by decide)
theorem hm_58 {n : Nat} : (58, 0) ∈ ids n := ids_fx (by decide)
theorem hm_59 {n : Nat} : (59, 0) ∈ ids n := ids_fx (by decide)
theorem hm_60 {n : Nat} : (60, 0) ∈ ids n := ids_fx (by decide)
theorem hm_61 {n : Nat} : (61, 0) ∈ ids n := ids_fx (by decide)
theorem hm_62 {n : Nat} : (62, 0) ∈ ids n := ids_fx (by decide)
theorem hm_63 {n : Nat} : (63, 0) ∈ ids n := ids_fx (by decide)
theorem hm_64 {n : Nat} : (64, 0) ∈ ids n := ids_fx (by decide)
theorem hm_65 {n : Nat} : (65, 0) ∈ ids n := ids_fx (by decide)
theorem hm_66 {n : Nat} : (66, 0) ∈ ids n := ids_fx (by decide)
theorem hm_67 {n : Nat} : (67, 0) ∈ ids n := ids_fx (by decide)
theorem hm_68 {n : Nat} : (68, 0) ∈ ids n := ids_fx (by decide)
def lW (cA : Nat → ClassId) (ad : Nat → Nat → Nat) (S : Sg) : va_W := (ids (nM S)).map (fun i => (ad i.1 i.2, cel cA ad S i.1 i.2))
theorem lW_get (cA : Nat → ClassId) (ad : Nat → Nat → Nat) (S : Sg) {t k : Nat} (h : (t, k) ∈ ids (nM S)) : ∃ q : Nat, (ids (nM S))[q]? = some (t, k) ∧ (lW cA ad S)[q]? = some (ad t k, cel cA ad S t k) := by
  obtain ⟨q, hq⟩ := List.mem_iff_getElem?.mp h
  exact ⟨q, hq, by unfold lW; rw [List.getElem?_map, hq]; rfl⟩
theorem lW_set {A : Nat → Prop} {cA : Nat → ClassId} {ad : Nat → Nat → Nat} {S S' : Sg} {t k q : Nat} {e : va_E} (hD : va_D A (lW cA ad S)) (hq : (ids (nM S))[q]? = some (t, k)) (hn : nM S' = nM S) (he : cel cA ad S' t k = e) (ho : ∀ a b : Nat, ¬ (a = t ∧ b = k) → cel cA ad S' a b = cel cA ad S a b) : (lW cA ad S).set q (ad t k, e) = lW cA ad S' := by
  have hg : ∀ j : Nat, (lW cA ad S)[j]? = ((ids (nM S))[j]?).map (fun i => (ad i.1 i.2, cel cA ad S i.1 i.2)) := fun j => by unfold lW; rw [List.getElem?_map]
  apply List.ext_getElem?
  intro j
  rw [List.getElem?_set]
  have hr : (lW cA ad S')[j]? = ((ids (nM S))[j]?).map (fun i => (ad i.1 i.2, cel cA ad S' i.1 i.2)) := by unfold lW; rw [List.getElem?_map, hn]
  rw [hr, hg]
  by_cases hj : q = j
  · subst hj
    have hlt : q < (lW cA ad S).length := by
      have := (List.getElem?_eq_some_iff.mp hq).1
      unfold lW
      rw [List.length_map]
      exact this
    rw [if_pos rfl, if_pos hlt, hq]
    show some (ad t k, e) = some (ad t k, cel cA ad S' t k)
    rw [he]
  · rw [if_neg hj]
    cases hi : (ids (nM S))[j]? with
    | none => rfl
    | some i =>
      obtain ⟨a, b⟩ := i
      show some (ad a b, cel cA ad S a b) = some (ad a b, cel cA ad S' a b)
      by_cases hab : a = t ∧ b = k
      · obtain ⟨rfl, rfl⟩ := hab
        exact absurd (hD.1 q j _ _ (by rw [hg, hq]; rfl) (by rw [hg, hi]; rfl) rfl) hj
      · rw [ho a b hab]
abbrev tyl (cA : Nat → ClassId) : List (ClassId × FieldType) := [(cA 0, .int), (cA 1, .boolean), (cA 2, .long), (cA 3, .object "CreepBoard$Mark"), (cA 4, .object "CreepBoard$Shelf"), (cA 5, .array .int)]
/-- what stays the same on a walk -/
def Cx (p : Program) (s : State) (m : MethodId) (args : Array Value) (c : Code) (cc : ByteArray) (nL : Nat) (Ts : List Cond) (own : String) (D : va_G) (cA : Nat → ClassId) (A : Nat → Prop) : Prop :=
  p.tables.exec = Jvm.exec ∧ c.code = cc ∧ c.maxLocals = nL ∧ s.vm.findClass own = some m.cls ∧ (∀ w ∈ Ts, w.before args s = true) ∧ va_K D vwCl (tyl cA) s ∧ ∀ q : Nat, s.heap.size ≤ q → A q
/-- from the state S, the locals lv and the stack st the method goes on to Q -/
def KK (p : Program) (l : Launch) (e : Env) (R : Room) (s : State) (m : MethodId) (args : Array Value) (below : List Frame) (meth : Method) (c : Code) (nL : Nat) (D : va_G) (cA : Nat → ClassId) (ad : Nat → Nat → Nat) (A : Nat → Prop) (Q : State → Prop) (pc : Nat) (lv : List (Nat × Value)) (st : List Value) (S : Sg) : Prop :=
  ∀ (H : Heap) (locs : List Loc) (ls : Array Slot), lv_has ls nL lv → va_P D vwCl (lW cA ad S) H → va_D A (lW cA ad S) → va_S A s.heap H locs → W p l e R s m args below meth c H locs 0 0 Q (F0 m pc ls st)
section
variable {p : Program} {l : Launch} {e : Env} {R : Room} {s : State} {m : MethodId} {args : Array Value} {below : List Frame} {meth : Method} {c : Code} {nL : Nat} {D : va_G} {cA : Nat → ClassId} {ad : Nat → Nat → Nat} {A : Nat → Prop} {Q : State → Prop} {cc : ByteArray} {Ts : List Cond} {own : String} {pc : Nat} {lv lv' : List (Nat × Value)} {st : List Value} {S : Sg}
theorem k_iadd (C : Cx p s m args c cc nL Ts own D cA A) {x y : Int32} (d : decode cc pc = .ok (.iadd, 1)) (kk : KK p l e R s m args below meth c nL D cA ad A Q (pc + 1) lv (.int (x + y) :: st) S) : KK p l e R s m args below meth c nL D cA ad A Q pc lv (.int y :: .int x :: st) S :=
  fun H locs ls hl hP hD hS => lv_iadd C.1 C.2.1 d (kk H locs ls hl hP hD hS)
theorem k_isub (C : Cx p s m args c cc nL Ts own D cA A) {x y : Int32} (d : decode cc pc = .ok (.isub, 1)) (kk : KK p l e R s m args below meth c nL D cA ad A Q (pc + 1) lv (.int (x - y) :: st) S) : KK p l e R s m args below meth c nL D cA ad A Q pc lv (.int y :: .int x :: st) S :=
  fun H locs ls hl hP hD hS => lv_isub C.1 C.2.1 d (kk H locs ls hl hP hD hS)
theorem k_imul (C : Cx p s m args c cc nL Ts own D cA A) {x y : Int32} (d : decode cc pc = .ok (.imul, 1)) (kk : KK p l e R s m args below meth c nL D cA ad A Q (pc + 1) lv (.int (x * y) :: st) S) : KK p l e R s m args below meth c nL D cA ad A Q pc lv (.int y :: .int x :: st) S :=
  fun H locs ls hl hP hD hS => lv_imul C.1 C.2.1 d (kk H locs ls hl hP hD hS)
theorem k_iand (C : Cx p s m args c cc nL Ts own D cA A) {x y : Int32} (d : decode cc pc = .ok (.iand, 1)) (kk : KK p l e R s m args below meth c nL D cA ad A Q (pc + 1) lv (.int (x &&& y) :: st) S) : KK p l e R s m args below meth c nL D cA ad A Q pc lv (.int y :: .int x :: st) S :=
  fun H locs ls hl hP hD hS => lv_iand C.1 C.2.1 d (kk H locs ls hl hP hD hS)
theorem k_ior (C : Cx p s m args c cc nL Ts own D cA A) {x y : Int32} (d : decode cc pc = .ok (.ior, 1)) (kk : KK p l e R s m args below meth c nL D cA ad A Q (pc + 1) lv (.int (x ||| y) :: st) S) : KK p l e R s m args below meth c nL D cA ad A Q pc lv (.int y :: .int x :: st) S :=
  fun H locs ls hl hP hD hS => lv_ior C.1 C.2.1 d (kk H locs ls hl hP hD hS)
theorem k_ixor (C : Cx p s m args c cc nL Ts own D cA A) {x y : Int32} (d : decode cc pc = .ok (.ixor, 1)) (kk : KK p l e R s m args below meth c nL D cA ad A Q (pc + 1) lv (.int (x ^^^ y) :: st) S) : KK p l e R s m args below meth c nL D cA ad A Q pc lv (.int y :: .int x :: st) S :=
  fun H locs ls hl hP hD hS => lv_ixor C.1 C.2.1 d (kk H locs ls hl hP hD hS)
theorem k_ishl (C : Cx p s m args c cc nL Ts own D cA A) {x y : Int32} (d : decode cc pc = .ok (.ishl, 1)) (kk : KK p l e R s m args below meth c nL D cA ad A Q (pc + 1) lv (.int (x <<< (y &&& 31)) :: st) S) : KK p l e R s m args below meth c nL D cA ad A Q pc lv (.int y :: .int x :: st) S :=
  fun H locs ls hl hP hD hS => lv_ishl C.1 C.2.1 d (kk H locs ls hl hP hD hS)
theorem k_ishr (C : Cx p s m args c cc nL Ts own D cA A) {x y : Int32} (d : decode cc pc = .ok (.ishr, 1)) (kk : KK p l e R s m args below meth c nL D cA ad A Q (pc + 1) lv (.int (x >>> (y &&& 31)) :: st) S) : KK p l e R s m args below meth c nL D cA ad A Q pc lv (.int y :: .int x :: st) S :=
  fun H locs ls hl hP hD hS => lv_ishr C.1 C.2.1 d (kk H locs ls hl hP hD hS)
theorem k_ladd (C : Cx p s m args c cc nL Ts own D cA A) {x y : Int64} (d : decode cc pc = .ok (.ladd, 1)) (kk : KK p l e R s m args below meth c nL D cA ad A Q (pc + 1) lv (.long (x + y) :: st) S) : KK p l e R s m args below meth c nL D cA ad A Q pc lv (.long y :: .long x :: st) S :=
  fun H locs ls hl hP hD hS => lv_ladd C.1 C.2.1 d (kk H locs ls hl hP hD hS)
theorem k_lsub (C : Cx p s m args c cc nL Ts own D cA A) {x y : Int64} (d : decode cc pc = .ok (.lsub, 1)) (kk : KK p l e R s m args below meth c nL D cA ad A Q (pc + 1) lv (.long (x - y) :: st) S) : KK p l e R s m args below meth c nL D cA ad A Q pc lv (.long y :: .long x :: st) S :=
  fun H locs ls hl hP hD hS => lv_lsub C.1 C.2.1 d (kk H locs ls hl hP hD hS)
theorem k_lmul (C : Cx p s m args c cc nL Ts own D cA A) {x y : Int64} (d : decode cc pc = .ok (.lmul, 1)) (kk : KK p l e R s m args below meth c nL D cA ad A Q (pc + 1) lv (.long (x * y) :: st) S) : KK p l e R s m args below meth c nL D cA ad A Q pc lv (.long y :: .long x :: st) S :=
  fun H locs ls hl hP hD hS => lv_lmul C.1 C.2.1 d (kk H locs ls hl hP hD hS)
theorem k_ineg (C : Cx p s m args c cc nL Ts own D cA A) {x : Int32} (d : decode cc pc = .ok (.ineg, 1)) (kk : KK p l e R s m args below meth c nL D cA ad A Q (pc + 1) lv (.int (-x) :: st) S) : KK p l e R s m args below meth c nL D cA ad A Q pc lv (.int x :: st) S :=
  fun H locs ls hl hP hD hS => lv_ineg C.1 C.2.1 d (kk H locs ls hl hP hD hS)
theorem k_lneg (C : Cx p s m args c cc nL Ts own D cA A) {x : Int64} (d : decode cc pc = .ok (.lneg, 1)) (kk : KK p l e R s m args below meth c nL D cA ad A Q (pc + 1) lv (.long (-x) :: st) S) : KK p l e R s m args below meth c nL D cA ad A Q pc lv (.long x :: st) S :=
  fun H locs ls hl hP hD hS => lv_lneg C.1 C.2.1 d (kk H locs ls hl hP hD hS)
theorem k_idiv (C : Cx p s m args c cc nL Ts own D cA A) {x y : Int32} (d : decode cc pc = .ok (.idiv, 1)) (hne : ¬ y = 0) (kk : KK p l e R s m args below meth c nL D cA ad A Q (pc + 1) lv (.int (x / y) :: st) S) : KK p l e R s m args below meth c nL D cA ad A Q pc lv (.int y :: .int x :: st) S :=
  fun H locs ls hl hP hD hS => lv_idiv C.1 C.2.1 d hne (kk H locs ls hl hP hD hS)
theorem k_irem (C : Cx p s m args c cc nL Ts own D cA A) {x y : Int32} (d : decode cc pc = .ok (.irem, 1)) (hne : ¬ y = 0) (kk : KK p l e R s m args below meth c nL D cA ad A Q (pc + 1) lv (.int (x - x / y * y) :: st) S) : KK p l e R s m args below meth c nL D cA ad A Q pc lv (.int y :: .int x :: st) S :=
  fun H locs ls hl hP hD hS => lv_irem C.1 C.2.1 d hne (kk H locs ls hl hP hD hS)
theorem k_ldiv (C : Cx p s m args c cc nL Ts own D cA A) {x y : Int64} (d : decode cc pc = .ok (.ldiv, 1)) (hne : ¬ y = 0) (kk : KK p l e R s m args below meth c nL D cA ad A Q (pc + 1) lv (.long (x / y) :: st) S) : KK p l e R s m args below meth c nL D cA ad A Q pc lv (.long y :: .long x :: st) S :=
  fun H locs ls hl hP hD hS => lv_ldiv C.1 C.2.1 d hne (kk H locs ls hl hP hD hS)
theorem k_lrem (C : Cx p s m args c cc nL Ts own D cA A) {x y : Int64} (d : decode cc pc = .ok (.lrem, 1)) (hne : ¬ y = 0) (kk : KK p l e R s m args below meth c nL D cA ad A Q (pc + 1) lv (.long (x - x / y * y) :: st) S) : KK p l e R s m args below meth c nL D cA ad A Q pc lv (.long y :: .long x :: st) S :=
  fun H locs ls hl hP hD hS => lv_lrem C.1 C.2.1 d hne (kk H locs ls hl hP hD hS)
theorem k_i2l (C : Cx p s m args c cc nL Ts own D cA A) {x : Int32} (d : decode cc pc = .ok (.i2l, 1)) (kk : KK p l e R s m args below meth c nL D cA ad A Q (pc + 1) lv (.long x.toInt64 :: st) S) : KK p l e R s m args below meth c nL D cA ad A Q pc lv (.int x :: st) S :=
  fun H locs ls hl hP hD hS => lv_i2l C.1 C.2.1 d rfl (kk H locs ls hl hP hD hS)
theorem k_lcmp (C : Cx p s m args c cc nL Ts own D cA A) {x y : Int64} (d : decode cc pc = .ok (.lcmp, 1)) (kk : KK p l e R s m args below meth c nL D cA ad A Q (pc + 1) lv (.int (lg_cmp x y) :: st) S) : KK p l e R s m args below meth c nL D cA ad A Q pc lv (.long y :: .long x :: st) S :=
  fun H locs ls hl hP hD hS => W.lcmp C.1 C.2.1 d (kk H locs ls hl hP hD hS)
theorem k_iconst (C : Cx p s m args c cc nL Ts own D cA A) {n : Int} {v : Int32} (d : decode cc pc = .ok (.iconst n, 1)) (hv : Int32.ofInt n = v) (kk : KK p l e R s m args below meth c nL D cA ad A Q (pc + 1) lv (.int v :: st) S) : KK p l e R s m args below meth c nL D cA ad A Q pc lv st S :=
  fun H locs ls hl hP hD hS => lv_iconst C.1 C.2.1 d hv (kk H locs ls hl hP hD hS)
theorem k_bipush (C : Cx p s m args c cc nL Ts own D cA A) {n : Int} {v : Int32} (d : decode cc pc = .ok (.bipush n, 2)) (hv : (Int8.ofInt n).toInt32 = v) (kk : KK p l e R s m args below meth c nL D cA ad A Q (pc + 2) lv (.int v :: st) S) : KK p l e R s m args below meth c nL D cA ad A Q pc lv st S :=
  fun H locs ls hl hP hD hS => lv_bipush C.1 C.2.1 d hv (kk H locs ls hl hP hD hS)
theorem k_sipush (C : Cx p s m args c cc nL Ts own D cA A) {n : Int} {v : Int32} (d : decode cc pc = .ok (.sipush n, 3)) (hv : (Int16.ofInt n).toInt32 = v) (kk : KK p l e R s m args below meth c nL D cA ad A Q (pc + 3) lv (.int v :: st) S) : KK p l e R s m args below meth c nL D cA ad A Q pc lv st S :=
  fun H locs ls hl hP hD hS => lv_sipush C.1 C.2.1 d hv (kk H locs ls hl hP hD hS)
theorem k_lconst (C : Cx p s m args c cc nL Ts own D cA A) {n : Fin 2} {v : Int64} (d : decode cc pc = .ok (.lconst n, 1)) (hv : Int64.ofNat (n : Nat) = v) (kk : KK p l e R s m args below meth c nL D cA ad A Q (pc + 1) lv (.long v :: st) S) : KK p l e R s m args below meth c nL D cA ad A Q pc lv st S :=
  fun H locs ls hl hP hD hS => lv_lconst C.1 C.2.1 d hv (kk H locs ls hl hP hD hS)
theorem k_ldc (C : Cx p s m args c cc nL Ts own D cA A) {index : Nat} {v : Int32} (hc : (Jvm.Cond.constant own index v).before args s = true) (d : decode cc pc = .ok (.ldc index, 2)) (kk : KK p l e R s m args below meth c nL D cA ad A Q (pc + 2) lv (.int v :: st) S) : KK p l e R s m args below meth c nL D cA ad A Q pc lv st S :=
  fun H locs ls hl hP hD hS => lv_ldc C.1 C.2.1 C.2.2.2.1 hc d (kk H locs ls hl hP hD hS)
theorem k_iload_n (C : Cx p s m args c cc nL Ts own D cA A) {k : Fin 4} {i : Nat} {x : Int32} (d : decode cc pc = .ok (.iload_n k, 1)) (j : Nat) (hi : (k : Nat) = i) (hk : lv[j]? = some (i, .int x)) (kk : KK p l e R s m args below meth c nL D cA ad A Q (pc + 1) lv (.int x :: st) S) : KK p l e R s m args below meth c nL D cA ad A Q pc lv st S :=
  fun H locs ls hl hP hD hS => lv_iload_n C.1 C.2.1 d hi (lv_at hl j hk) (kk H locs ls hl hP hD hS)
theorem k_iload (C : Cx p s m args c cc nL Ts own D cA A) {i : Nat} {x : Int32} (d : decode cc pc = .ok (.iload i, 2)) (j : Nat) (hk : lv[j]? = some (i, .int x)) (kk : KK p l e R s m args below meth c nL D cA ad A Q (pc + 2) lv (.int x :: st) S) : KK p l e R s m args below meth c nL D cA ad A Q pc lv st S :=
  fun H locs ls hl hP hD hS => lv_iload C.1 C.2.1 d (lv_at hl j hk) (kk H locs ls hl hP hD hS)
theorem k_lload_n (C : Cx p s m args c cc nL Ts own D cA A) {k : Fin 4} {i : Nat} {x : Int64} (d : decode cc pc = .ok (.lload_n k, 1)) (j : Nat) (hi : (k : Nat) = i) (hk : lv[j]? = some (i, .long x)) (kk : KK p l e R s m args below meth c nL D cA ad A Q (pc + 1) lv (.long x :: st) S) : KK p l e R s m args below meth c nL D cA ad A Q pc lv st S :=
  fun H locs ls hl hP hD hS => lv_lload_n C.1 C.2.1 d hi (lv_at hl j hk) (kk H locs ls hl hP hD hS)
theorem k_lload (C : Cx p s m args c cc nL Ts own D cA A) {i : Nat} {x : Int64} (d : decode cc pc = .ok (.lload i, 2)) (j : Nat) (hk : lv[j]? = some (i, .long x)) (kk : KK p l e R s m args below meth c nL D cA ad A Q (pc + 2) lv (.long x :: st) S) : KK p l e R s m args below meth c nL D cA ad A Q pc lv st S :=
  fun H locs ls hl hP hD hS => lv_lload C.1 C.2.1 d (lv_at hl j hk) (kk H locs ls hl hP hD hS)
theorem k_aload_n (C : Cx p s m args c cc nL Ts own D cA A) {k : Fin 4} {i : Nat} {x : Nat} (d : decode cc pc = .ok (.aload_n k, 1)) (j : Nat) (hi : (k : Nat) = i) (hk : lv[j]? = some (i, .ref x)) (kk : KK p l e R s m args below meth c nL D cA ad A Q (pc + 1) lv (.ref x :: st) S) : KK p l e R s m args below meth c nL D cA ad A Q pc lv st S :=
  fun H locs ls hl hP hD hS => lv_aload_n C.1 C.2.1 d hi (lv_at hl j hk) (kk H locs ls hl hP hD hS)
theorem k_aload (C : Cx p s m args c cc nL Ts own D cA A) {i : Nat} {x : Nat} (d : decode cc pc = .ok (.aload i, 2)) (j : Nat) (hk : lv[j]? = some (i, .ref x)) (kk : KK p l e R s m args below meth c nL D cA ad A Q (pc + 2) lv (.ref x :: st) S) : KK p l e R s m args below meth c nL D cA ad A Q pc lv st S :=
  fun H locs ls hl hP hD hS => lv_aload C.1 C.2.1 d (lv_at hl j hk) (kk H locs ls hl hP hD hS)
theorem k_istore_n (C : Cx p s m args c cc nL Ts own D cA A) {k : Fin 4} {i : Nat} {x : Int32} (d : decode cc pc = .ok (.istore_n k, 1)) (hi : (k : Nat) = i) (hn : i < nL) (lv' : List (Nat × Value)) (hlv : (i, Value.int x) :: lv.filter (fun q => !(q.1 == i) && !(q.1 + 1 == i && q.2.category == 2)) = lv') (kk : KK p l e R s m args below meth c nL D cA ad A Q (pc + 1) lv' st S) : KK p l e R s m args below meth c nL D cA ad A Q pc lv (.int x :: st) S :=
  fun H locs ls hl hP hD hS => lv_istore_n C.1 C.2.1 d hi hl hn hlv (fun ls hl => kk H locs ls hl hP hD hS)
theorem k_istore (C : Cx p s m args c cc nL Ts own D cA A) {i : Nat} {x : Int32} (d : decode cc pc = .ok (.istore i, 2)) (hn : i < nL) (lv' : List (Nat × Value)) (hlv : (i, Value.int x) :: lv.filter (fun q => !(q.1 == i) && !(q.1 + 1 == i && q.2.category == 2)) = lv') (kk : KK p l e R s m args below meth c nL D cA ad A Q (pc + 2) lv' st S) : KK p l e R s m args below meth c nL D cA ad A Q pc lv (.int x :: st) S :=
  fun H locs ls hl hP hD hS => lv_istore C.1 C.2.1 d hl hn hlv (fun ls hl => kk H locs ls hl hP hD hS)
theorem k_lstore_n (C : Cx p s m args c cc nL Ts own D cA A) {k : Fin 4} {i : Nat} {x : Int64} (d : decode cc pc = .ok (.lstore_n k, 1)) (hi : (k : Nat) = i) (hn : i + 1 < nL) (lv' : List (Nat × Value)) (hlv : (i, Value.long x) :: lv.filter (fun q => !(q.1 == i) && (!(q.1 == i + 1) && !(q.1 + 1 == i && q.2.category == 2))) = lv') (kk : KK p l e R s m args below meth c nL D cA ad A Q (pc + 1) lv' st S) : KK p l e R s m args below meth c nL D cA ad A Q pc lv (.long x :: st) S :=
  fun H locs ls hl hP hD hS => lv_lstore_n C.1 C.2.1 d hi hl hn hlv (fun ls hl => kk H locs ls hl hP hD hS)
theorem k_lstore (C : Cx p s m args c cc nL Ts own D cA A) {i : Nat} {x : Int64} (d : decode cc pc = .ok (.lstore i, 2)) (hn : i + 1 < nL) (lv' : List (Nat × Value)) (hlv : (i, Value.long x) :: lv.filter (fun q => !(q.1 == i) && (!(q.1 == i + 1) && !(q.1 + 1 == i && q.2.category == 2))) = lv') (kk : KK p l e R s m args below meth c nL D cA ad A Q (pc + 2) lv' st S) : KK p l e R s m args below meth c nL D cA ad A Q pc lv (.long x :: st) S :=
  fun H locs ls hl hP hD hS => lv_lstore C.1 C.2.1 d hl hn hlv (fun ls hl => kk H locs ls hl hP hD hS)
theorem k_astore_n (C : Cx p s m args c cc nL Ts own D cA A) {k : Fin 4} {i : Nat} {x : Nat} (d : decode cc pc = .ok (.astore_n k, 1)) (hi : (k : Nat) = i) (hn : i < nL) (lv' : List (Nat × Value)) (hlv : (i, Value.ref x) :: lv.filter (fun q => !(q.1 == i) && !(q.1 + 1 == i && q.2.category == 2)) = lv') (kk : KK p l e R s m args below meth c nL D cA ad A Q (pc + 1) lv' st S) : KK p l e R s m args below meth c nL D cA ad A Q pc lv (.ref x :: st) S :=
  fun H locs ls hl hP hD hS => lv_astore_n C.1 C.2.1 d hi hl hn hlv (fun ls hl => kk H locs ls hl hP hD hS)
theorem k_astore (C : Cx p s m args c cc nL Ts own D cA A) {i : Nat} {x : Nat} (d : decode cc pc = .ok (.astore i, 2)) (hn : i < nL) (lv' : List (Nat × Value)) (hlv : (i, Value.ref x) :: lv.filter (fun q => !(q.1 == i) && !(q.1 + 1 == i && q.2.category == 2)) = lv') (kk : KK p l e R s m args below meth c nL D cA ad A Q (pc + 2) lv' st S) : KK p l e R s m args below meth c nL D cA ad A Q pc lv (.ref x :: st) S :=
  fun H locs ls hl hP hD hS => lv_astore C.1 C.2.1 d hl hn hlv (fun ls hl => kk H locs ls hl hP hD hS)
theorem k_iinc (C : Cx p s m args c cc nL Ts own D cA A) {i j : Nat} {n : Int} {x v : Int32} (d : decode cc pc = .ok (.iinc i n, 3)) (hj : lv[j]? = some (i, .int x)) (hv : x + Int32.ofInt n = v) (hn : i < nL) (lv' : List (Nat × Value)) (hlv : (i, Value.int v) :: lv.filter (fun q => !(q.1 == i) && !(q.1 + 1 == i && q.2.category == 2)) = lv') (kk : KK p l e R s m args below meth c nL D cA ad A Q (pc + 3) lv' st S) : KK p l e R s m args below meth c nL D cA ad A Q pc lv st S :=
  fun H locs ls hl hP hD hS => lv_iinc C.1 C.2.1 d hl hj hv hn hlv (fun ls hl => kk H locs ls hl hP hD hS)
theorem k_topi {x : Int32} (kk : ∀ y : Int32, y = x → KK p l e R s m args below meth c nL D cA ad A Q pc lv (.int y :: st) S) : KK p l e R s m args below meth c nL D cA ad A Q pc lv (.int x :: st) S := kk x rfl
theorem k_topl {x : Int64} (kk : ∀ y : Int64, y = x → KK p l e R s m args below meth c nL D cA ad A Q pc lv (.long y :: st) S) : KK p l e R s m args below meth c nL D cA ad A Q pc lv (.long x :: st) S := kk x rfl
theorem k_sub (ks : List Nat) (lv' : List (Nat × Value)) (h : lv_pick lv ks = lv') (kk : KK p l e R s m args below meth c nL D cA ad A Q pc lv' st S) : KK p l e R s m args below meth c nL D cA ad A Q pc lv st S := fun H locs ls hl => kk H locs ls (lv_sub hl ks h)
theorem k_dup (C : Cx p s m args c cc nL Ts own D cA A) {v : Value} (d : decode cc pc = .ok (.dup, 1)) (hc : v.category = 1) (kk : KK p l e R s m args below meth c nL D cA ad A Q (pc + 1) lv (v :: v :: st) S) : KK p l e R s m args below meth c nL D cA ad A Q pc lv (v :: st) S :=
  fun H locs ls hl hP hD hS => lv_dup C.1 C.2.1 d hc (kk H locs ls hl hP hD hS)
theorem k_pop (C : Cx p s m args c cc nL Ts own D cA A) {v : Value} (d : decode cc pc = .ok (.pop, 1)) (hc : v.category = 1) (kk : KK p l e R s m args below meth c nL D cA ad A Q (pc + 1) lv st S) : KK p l e R s m args below meth c nL D cA ad A Q pc lv (v :: st) S :=
  fun H locs ls hl hP hD hS => lv_pop C.1 C.2.1 d hc (kk H locs ls hl hP hD hS)
theorem k_dup2 (C : Cx p s m args c cc nL Ts own D cA A) {v u : Value} (d : decode cc pc = .ok (.dup2, 1)) (hc : v.category = 1) (hc' : u.category = 1) (kk : KK p l e R s m args below meth c nL D cA ad A Q (pc + 1) lv (v :: u :: v :: u :: st) S) : KK p l e R s m args below meth c nL D cA ad A Q pc lv (v :: u :: st) S :=
  fun H locs ls hl hP hD hS => lv_dup2_11 C.1 C.2.1 d hc hc' (kk H locs ls hl hP hD hS)
theorem k_if_eq (C : Cx p s m args c cc nL Ts own D cA A) {x : Int32} {off : Int} (tgt : Nat) (d : decode cc pc = .ok (.ifCond .eq off, 3)) (ht : (pc : Int) + off = (tgt : Int)) (kt : x = 0 → KK p l e R s m args below meth c nL D cA ad A Q tgt lv st S) (kf : ¬ x = 0 → KK p l e R s m args below meth c nL D cA ad A Q (pc + 3) lv st S) : KK p l e R s m args below meth c nL D cA ad A Q pc lv (.int x :: st) S :=
  fun H locs ls hl hP hD hS => lv_if_eq C.1 C.2.1 d ht (fun q => kt q H locs ls hl hP hD hS) (fun q => kf q H locs ls hl hP hD hS)
theorem k_icmp_eq (C : Cx p s m args c cc nL Ts own D cA A) {x y : Int32} {off : Int} (tgt : Nat) (d : decode cc pc = .ok (.if_icmp .eq off, 3)) (ht : (pc : Int) + off = (tgt : Int)) (kt : x = y → KK p l e R s m args below meth c nL D cA ad A Q tgt lv st S) (kf : ¬ x = y → KK p l e R s m args below meth c nL D cA ad A Q (pc + 3) lv st S) : KK p l e R s m args below meth c nL D cA ad A Q pc lv (.int y :: .int x :: st) S :=
  fun H locs ls hl hP hD hS => lv_icmp_eq C.1 C.2.1 d ht (fun q => kt q H locs ls hl hP hD hS) (fun q => kf q H locs ls hl hP hD hS)
theorem k_if_ne (C : Cx p s m args c cc nL Ts own D cA A) {x : Int32} {off : Int} (tgt : Nat) (d : decode cc pc = .ok (.ifCond .ne off, 3)) (ht : (pc : Int) + off = (tgt : Int)) (kt : ¬ x = 0 → KK p l e R s m args below meth c nL D cA ad A Q tgt lv st S) (kf : x = 0 → KK p l e R s m args below meth c nL D cA ad A Q (pc + 3) lv st S) : KK p l e R s m args below meth c nL D cA ad A Q pc lv (.int x :: st) S :=
  fun H locs ls hl hP hD hS => lv_if_ne C.1 C.2.1 d ht (fun q => kt q H locs ls hl hP hD hS) (fun q => kf q H locs ls hl hP hD hS)
theorem k_icmp_ne (C : Cx p s m args c cc nL Ts own D cA A) {x y : Int32} {off : Int} (tgt : Nat) (d : decode cc pc = .ok (.if_icmp .ne off, 3)) (ht : (pc : Int) + off = (tgt : Int)) (kt : ¬ x = y → KK p l e R s m args below meth c nL D cA ad A Q tgt lv st S) (kf : x = y → KK p l e R s m args below meth c nL D cA ad A Q (pc + 3) lv st S) : KK p l e R s m args below meth c nL D cA ad A Q pc lv (.int y :: .int x :: st) S :=
  fun H locs ls hl hP hD hS => lv_icmp_ne C.1 C.2.1 d ht (fun q => kt q H locs ls hl hP hD hS) (fun q => kf q H locs ls hl hP hD hS)
theorem k_if_lt (C : Cx p s m args c cc nL Ts own D cA A) {x : Int32} {off : Int} (tgt : Nat) (d : decode cc pc = .ok (.ifCond .lt off, 3)) (ht : (pc : Int) + off = (tgt : Int)) (kt : x < 0 → KK p l e R s m args below meth c nL D cA ad A Q tgt lv st S) (kf : ¬ x < 0 → KK p l e R s m args below meth c nL D cA ad A Q (pc + 3) lv st S) : KK p l e R s m args below meth c nL D cA ad A Q pc lv (.int x :: st) S :=
  fun H locs ls hl hP hD hS => lv_if_lt C.1 C.2.1 d ht (fun q => kt q H locs ls hl hP hD hS) (fun q => kf q H locs ls hl hP hD hS)
theorem k_icmp_lt (C : Cx p s m args c cc nL Ts own D cA A) {x y : Int32} {off : Int} (tgt : Nat) (d : decode cc pc = .ok (.if_icmp .lt off, 3)) (ht : (pc : Int) + off = (tgt : Int)) (kt : x < y → KK p l e R s m args below meth c nL D cA ad A Q tgt lv st S) (kf : ¬ x < y → KK p l e R s m args below meth c nL D cA ad A Q (pc + 3) lv st S) : KK p l e R s m args below meth c nL D cA ad A Q pc lv (.int y :: .int x :: st) S :=
  fun H locs ls hl hP hD hS => lv_icmp_lt C.1 C.2.1 d ht (fun q => kt q H locs ls hl hP hD hS) (fun q => kf q H locs ls hl hP hD hS)
theorem k_if_ge (C : Cx p s m args c cc nL Ts own D cA A) {x : Int32} {off : Int} (tgt : Nat) (d : decode cc pc = .ok (.ifCond .ge off, 3)) (ht : (pc : Int) + off = (tgt : Int)) (kt : 0 ≤ x → KK p l e R s m args below meth c nL D cA ad A Q tgt lv st S) (kf : ¬ 0 ≤ x → KK p l e R s m args below meth c nL D cA ad A Q (pc + 3) lv st S) : KK p l e R s m args below meth c nL D cA ad A Q pc lv (.int x :: st) S :=
  fun H locs ls hl hP hD hS => lv_if_ge C.1 C.2.1 d ht (fun q => kt q H locs ls hl hP hD hS) (fun q => kf q H locs ls hl hP hD hS)
theorem k_icmp_ge (C : Cx p s m args c cc nL Ts own D cA A) {x y : Int32} {off : Int} (tgt : Nat) (d : decode cc pc = .ok (.if_icmp .ge off, 3)) (ht : (pc : Int) + off = (tgt : Int)) (kt : y ≤ x → KK p l e R s m args below meth c nL D cA ad A Q tgt lv st S) (kf : ¬ y ≤ x → KK p l e R s m args below meth c nL D cA ad A Q (pc + 3) lv st S) : KK p l e R s m args below meth c nL D cA ad A Q pc lv (.int y :: .int x :: st) S :=
  fun H locs ls hl hP hD hS => lv_icmp_ge C.1 C.2.1 d ht (fun q => kt q H locs ls hl hP hD hS) (fun q => kf q H locs ls hl hP hD hS)
theorem k_if_gt (C : Cx p s m args c cc nL Ts own D cA A) {x : Int32} {off : Int} (tgt : Nat) (d : decode cc pc = .ok (.ifCond .gt off, 3)) (ht : (pc : Int) + off = (tgt : Int)) (kt : 0 < x → KK p l e R s m args below meth c nL D cA ad A Q tgt lv st S) (kf : ¬ 0 < x → KK p l e R s m args below meth c nL D cA ad A Q (pc + 3) lv st S) : KK p l e R s m args below meth c nL D cA ad A Q pc lv (.int x :: st) S :=
  fun H locs ls hl hP hD hS => lv_if_gt C.1 C.2.1 d ht (fun q => kt q H locs ls hl hP hD hS) (fun q => kf q H locs ls hl hP hD hS)
theorem k_icmp_gt (C : Cx p s m args c cc nL Ts own D cA A) {x y : Int32} {off : Int} (tgt : Nat) (d : decode cc pc = .ok (.if_icmp .gt off, 3)) (ht : (pc : Int) + off = (tgt : Int)) (kt : y < x → KK p l e R s m args below meth c nL D cA ad A Q tgt lv st S) (kf : ¬ y < x → KK p l e R s m args below meth c nL D cA ad A Q (pc + 3) lv st S) : KK p l e R s m args below meth c nL D cA ad A Q pc lv (.int y :: .int x :: st) S :=
  fun H locs ls hl hP hD hS => lv_icmp_gt C.1 C.2.1 d ht (fun q => kt q H locs ls hl hP hD hS) (fun q => kf q H locs ls hl hP hD hS)
theorem k_if_le (C : Cx p s m args c cc nL Ts own D cA A) {x : Int32} {off : Int} (tgt : Nat) (d : decode cc pc = .ok (.ifCond .le off, 3)) (ht : (pc : Int) + off = (tgt : Int)) (kt : x ≤ 0 → KK p l e R s m args below meth c nL D cA ad A Q tgt lv st S) (kf : ¬ x ≤ 0 → KK p l e R s m args below meth c nL D cA ad A Q (pc + 3) lv st S) : KK p l e R s m args below meth c nL D cA ad A Q pc lv (.int x :: st) S :=
  fun H locs ls hl hP hD hS => lv_if_le C.1 C.2.1 d ht (fun q => kt q H locs ls hl hP hD hS) (fun q => kf q H locs ls hl hP hD hS)
theorem k_icmp_le (C : Cx p s m args c cc nL Ts own D cA A) {x y : Int32} {off : Int} (tgt : Nat) (d : decode cc pc = .ok (.if_icmp .le off, 3)) (ht : (pc : Int) + off = (tgt : Int)) (kt : x ≤ y → KK p l e R s m args below meth c nL D cA ad A Q tgt lv st S) (kf : ¬ x ≤ y → KK p l e R s m args below meth c nL D cA ad A Q (pc + 3) lv st S) : KK p l e R s m args below meth c nL D cA ad A Q pc lv (.int y :: .int x :: st) S :=
  fun H locs ls hl hP hD hS => lv_icmp_le C.1 C.2.1 d ht (fun q => kt q H locs ls hl hP hD hS) (fun q => kf q H locs ls hl hP hD hS)
theorem k_goto (C : Cx p s m args c cc nL Ts own D cA A) {off : Int} (tgt : Nat) (d : decode cc pc = .ok (.goto off, 3)) (ht : (pc : Int) + off = (tgt : Int)) (kk : KK p l e R s m args below meth c nL D cA ad A Q tgt lv st S) : KK p l e R s m args below meth c nL D cA ad A Q pc lv st S :=
  fun H locs ls hl hP hD hS => lv_goto C.1 C.2.1 d ht (kk H locs ls hl hP hD hS)
theorem k_get (C : Cx p s m args c cc nL Ts own D cA A) {t k ci index j N : Nat} {ref Cn : String} {T : u_T} {fs : List Value} {v : Value} (hin : ∀ w ∈ u_ws Cn T N, w ∈ Ts) (hm : (t, k) ∈ ids (nM S)) (he : cel cA ad S t k = .inr (ci, fs)) (hc : vwCl[ci]? = some (Cn, T, N)) (hj : j < N) (hlink : Cond.fieldLink own index ref (T j).2.1 (T j).2.2.1 ∈ Ts) (hsame : ∀ x, s.fieldFound? (T j).1 (T j).2.1 (T j).2.2.1 = some x → s.fieldFound? ref (T j).2.1 (T j).2.2.1 = some x) (hv : fs[j]? = some v) (d : decode cc pc = .ok (.getfield index, 3)) (kk : KK p l e R s m args below meth c nL D cA ad A Q (pc + 3) lv (v :: st) S) : KK p l e R s m args below meth c nL D cA ad A Q pc lv (.ref (ad t k) :: st) S := fun H locs ls hl hP hD hS => by
  obtain ⟨q, -, hq⟩ := lW_get cA ad S hm
  rw [he] at hq
  exact va_get C.1 C.2.1 C.2.2.2.2.1 hin C.2.2.2.1 C.2.2.2.2.2.1 hP q hq hc j hj (C.2.2.2.2.1 _ hlink) hsame hv d (kk H locs ls hl hP hD hS)
theorem k_put (C : Cx p s m args c cc nL Ts own D cA A) {S' : Sg} {t k ci index j N : Nat} {ref Cn : String} {T : u_T} {fs : List Value} {v : Value} (hin : ∀ w ∈ u_ws Cn T N, w ∈ Ts) (ty0 : Nat → FieldType) (hty : ∀ k, k < N → parseFieldDescriptor (T k).2.2.1 = some (ty0 k)) (hnm : ∀ a, a < N → ∀ b, b < N → a ≠ b → (T a).2.1 ≠ (T b).2.1) (hm : (t, k) ∈ ids (nM S)) (he : cel cA ad S t k = .inr (ci, fs)) (hc : vwCl[ci]? = some (Cn, T, N)) (hj : j < N) (hlink : Cond.fieldLink own index ref (T j).2.1 (T j).2.2.1 ∈ Ts) (hsame : ∀ x, s.fieldFound? (T j).1 (T j).2.1 (T j).2.2.1 = some x → s.fieldFound? ref (T j).2.1 (T j).2.2.1 = some x) (hfin : (T j).2.2.2 = false) {ty : FieldType} (hd : parseFieldDescriptor (T j).2.2.1 = some ty) (hnr : narrow ty v = v) (hfit : fits ty v = true) (hl0 : j < fs.length) (hn : nM S' = nM S) (he' : cel cA ad S' t k = .inr (ci, fs.set j v)) (ho : ∀ a b : Nat, ¬ (a = t ∧ b = k) → cel cA ad S' a b = cel cA ad S a b) (d : decode cc pc = .ok (.putfield index, 3)) (kk : KK p l e R s m args below meth c nL D cA ad A Q (pc + 3) lv st S') : KK p l e R s m args below meth c nL D cA ad A Q pc lv (v :: .ref (ad t k) :: st) S := fun H locs ls hl hP hD hS => by
  obtain ⟨q, hi, hq⟩ := lW_get cA ad S hm
  rw [he] at hq
  refine va_put C.1 C.2.1 C.2.2.2.2.1 hin ty0 hty hnm C.2.2.2.1 C.2.2.2.2.2.1 hP hD hS q hq hc j hj (C.2.2.2.2.1 _ hlink) hsame hfin hd hnr hfit hl0 d (fun H1 locs1 hP1 hD1 hS1 => ?_)
  have hs := lW_set hD hi hn he' ho
  rw [hs] at hP1 hD1
  exact kk H1 locs1 ls hl hP1 hD1 hS1
theorem k_iald (C : Cx p s m args c cc nL Ts own D cA A) {t k n : Nat} {f : Nat → Int32} {i : Int32} (hm : (t, k) ∈ ids (nM S)) (he : cel cA ad S t k = .inl (cA 0, n, .inl f)) (hin : vp_in i n) (d : decode cc pc = .ok (.iaload, 1)) (kk : KK p l e R s m args below meth c nL D cA ad A Q (pc + 1) lv (.int (f i.toNatClampNeg) :: st) S) : KK p l e R s m args below meth c nL D cA ad A Q pc lv (.int i :: .ref (ad t k) :: st) S := fun H locs ls hl hP hD hS => by
  obtain ⟨q, -, hq⟩ := lW_get cA ad S hm
  rw [he] at hq
  exact va_iald C.1 C.2.1 C.2.2.2.2.2.1 hP q 0 hq rfl hin d (kk H locs ls hl hP hD hS)
theorem k_zald (C : Cx p s m args c cc nL Ts own D cA A) {t k n : Nat} {f : Nat → Int32} {i : Int32} (hm : (t, k) ∈ ids (nM S)) (he : cel cA ad S t k = .inl (cA 1, n, .inl f)) (hin : vp_in i n) (d : decode cc pc = .ok (.baload, 1)) (kk : KK p l e R s m args below meth c nL D cA ad A Q (pc + 1) lv (.int (f i.toNatClampNeg) :: st) S) : KK p l e R s m args below meth c nL D cA ad A Q pc lv (.int i :: .ref (ad t k) :: st) S := fun H locs ls hl hP hD hS => by
  obtain ⟨q, -, hq⟩ := lW_get cA ad S hm
  rw [he] at hq
  exact va_zald C.1 C.2.1 C.2.2.2.2.2.1 hP q 1 hq rfl hin d (kk H locs ls hl hP hD hS)
theorem k_lald (C : Cx p s m args c cc nL Ts own D cA A) {t k n : Nat} {f : Nat → Int64} {i : Int32} (hm : (t, k) ∈ ids (nM S)) (he : cel cA ad S t k = .inl (cA 2, n, .inr (.inl f))) (hin : vp_in i n) (d : decode cc pc = .ok (.laload, 1)) (kk : KK p l e R s m args below meth c nL D cA ad A Q (pc + 1) lv (.long (f i.toNatClampNeg) :: st) S) : KK p l e R s m args below meth c nL D cA ad A Q pc lv (.int i :: .ref (ad t k) :: st) S := fun H locs ls hl hP hD hS => by
  obtain ⟨q, -, hq⟩ := lW_get cA ad S hm
  rw [he] at hq
  exact va_lald C.1 C.2.1 C.2.2.2.2.2.1 hP q 2 hq rfl hin d (kk H locs ls hl hP hD hS)
theorem k_iast (C : Cx p s m args c cc nL Ts own D cA A) {t k n : Nat} {i : Int32} {x : Int32} (hm : (t, k) ∈ ids (nM S)) (he : ∀ S : Sg, cel cA ad S t k = .inl (cA 0, n, .inl (gA S t k))) (hin : vp_in i n) (d : decode cc pc = .ok (.iastore, 1)) (kk : KK p l e R s m args below meth c nL D cA ad A Q (pc + 1) lv st (uA S t k i.toNatClampNeg x)) : KK p l e R s m args below meth c nL D cA ad A Q pc lv (.int x :: .int i :: .ref (ad t k) :: st) S := fun H locs ls hl hP hD hS => by
  obtain ⟨q, hi, hq⟩ := lW_get cA ad S hm
  rw [he] at hq
  refine va_iast C.1 C.2.1 C.2.2.2.2.2.1 hP hD hS q 0 hq rfl hin d (fun H1 locs1 hP1 hD1 hS1 => ?_)
  have hs := lW_set (S' := uA S t k i.toNatClampNeg x) hD hi rfl (he _) (fun a b h => cel_uA h)
  rw [gA_same] at hs
  rw [hs] at hP1 hD1
  exact kk H1 locs1 ls hl hP1 hD1 hS1
theorem k_zast (C : Cx p s m args c cc nL Ts own D cA A) {t k n : Nat} {i : Int32} {x : Int32} (hm : (t, k) ∈ ids (nM S)) (he : ∀ S : Sg, cel cA ad S t k = .inl (cA 1, n, .inl (gA S t k))) (hin : vp_in i n) (d : decode cc pc = .ok (.bastore, 1)) (kk : KK p l e R s m args below meth c nL D cA ad A Q (pc + 1) lv st (uA S t k i.toNatClampNeg (vp_nar .boolean x))) : KK p l e R s m args below meth c nL D cA ad A Q pc lv (.int x :: .int i :: .ref (ad t k) :: st) S := fun H locs ls hl hP hD hS => by
  obtain ⟨q, hi, hq⟩ := lW_get cA ad S hm
  rw [he] at hq
  refine va_zast C.1 C.2.1 C.2.2.2.2.2.1 hP hD hS q 1 hq rfl hin d (fun H1 locs1 hP1 hD1 hS1 => ?_)
  have hs := lW_set (S' := uA S t k i.toNatClampNeg (vp_nar .boolean x)) hD hi rfl (he _) (fun a b h => cel_uA h)
  rw [gA_same] at hs
  rw [hs] at hP1 hD1
  exact kk H1 locs1 ls hl hP1 hD1 hS1
theorem k_last (C : Cx p s m args c cc nL Ts own D cA A) {t k n : Nat} {i : Int32} {x : Int64} (hm : (t, k) ∈ ids (nM S)) (he : ∀ S : Sg, cel cA ad S t k = .inl (cA 2, n, .inr (.inl (gL S t k)))) (hin : vp_in i n) (d : decode cc pc = .ok (.lastore, 1)) (kk : KK p l e R s m args below meth c nL D cA ad A Q (pc + 1) lv st (uL S t k i.toNatClampNeg x)) : KK p l e R s m args below meth c nL D cA ad A Q pc lv (.long x :: .int i :: .ref (ad t k) :: st) S := fun H locs ls hl hP hD hS => by
  obtain ⟨q, hi, hq⟩ := lW_get cA ad S hm
  rw [he] at hq
  refine va_last C.1 C.2.1 C.2.2.2.2.2.1 hP hD hS q 2 hq rfl hin d (fun H1 locs1 hP1 hD1 hS1 => ?_)
  have hs := lW_set (S' := uL S t k i.toNatClampNeg x) hD hi rfl (he _) (fun a b h => cel_uL h)
  rw [gL_same] at hs
  rw [hs] at hP1 hD1
  exact kk H1 locs1 ls hl hP1 hD1 hS1
end
/-- a contract over the world: Qc is the kind of end -/
def Ct (l : Launch) (y : MethodName) (ws : List Cond) (rm : Room) (D : va_G) (cA : Nat → ClassId) (ad : Nat → Nat → Nat) (av : List Value) (S : Sg) (Qc : (Sg → State → Prop) → (Nat → Prop) → Array Value → State → Outcome → State → Prop) : Prop :=
  ∀ sz : Nat, Met l y ws rm (va_Pc av (fun U => U.heap.size = sz ∧ va_P D vwCl (lW cA ad S) U.heap ∧ va_K D vwCl (tyl cA) U ∧ va_D (fun _ => True) (lW cA ad S))) (Qc (fun S' t => va_P D vwCl (lW cA ad S') t.heap ∧ va_D (va_A (lW cA ad S) sz) (lW cA ad S')) (va_A (lW cA ad S) sz)) 0 0 (va_A (lW cA ad S) sz)
abbrev CtI (l : Launch) (y : MethodName) (ws : List Cond) (rm : Room) (D : va_G) (cA : Nat → ClassId) (ad : Nat → Nat → Nat) (av : List Value) (S : Sg) (post : Int32 → Sg → Prop) : Prop := Ct l y ws rm D cA ad av S (fun B A => va_Qi post B A)
abbrev CtL (l : Launch) (y : MethodName) (ws : List Cond) (rm : Room) (D : va_G) (cA : Nat → ClassId) (ad : Nat → Nat → Nat) (av : List Value) (S : Sg) (post : Int64 → Sg → Prop) : Prop := Ct l y ws rm D cA ad av S (fun B A => va_Ql post B A)
abbrev CtV (l : Launch) (y : MethodName) (ws : List Cond) (rm : Room) (D : va_G) (cA : Nat → ClassId) (ad : Nat → Nat → Nat) (av : List Value) (S : Sg) (post : Sg → Prop) : Prop := Ct l y ws rm D cA ad av S (fun B A => va_Qv post B A)
abbrev mkR (f lo : Nat) : Room := { frames := f, cells := 0, slots := 0, locals := lo }
theorem pre_blind {av : List Value} {sz : Nat} {D : va_G} {cA : Nat → ClassId} {ad : Nat → Nat → Nat} {S : Sg} : FrameBlind (va_Pc av (fun U => U.heap.size = sz ∧ va_P D vwCl (lW cA ad S) U.heap ∧ va_K D vwCl (tyl cA) U ∧ va_D (fun _ => True) (lW cA ad S))) := fun a U g mk q => by
  obtain ⟨q0, q1, qP, qK, qD⟩ := q
  exact ⟨q0, q1, qP, va_K.moved (u := U) (U := U.calling g mk a) (Vm.Alike.refl U.vm) qK, qD⟩
theorem lW_free {A : Nat → Prop} {cA : Nat → ClassId} {ad : Nat → Nat → Nat} {S : Sg} {H0 H : Heap} {locs : List Loc} (hD : va_D A (lW cA ad S)) (hS : va_S A H0 H locs) (hA : ∀ q, H0.size ≤ q → A q) : ∀ q, va_A (lW cA ad S) H.size q → A q := by
  intro q h
  rcases h with ⟨k, e, hk⟩ | h
  · exact hD.2 k _ hk
  · exact hA q (Nat.le_trans hS.1 h)
/-- a method's body gives its contract -/
theorem ct_of {l : Launch} {y : MethodName} {ws ws' : List Cond} {rm : Room} {D : va_G} {cA : Nat → ClassId} {ad : Nat → Nat → Nat} {av : List Value} {S : Sg} {Qc : (Sg → State → Prop) → (Nat → Prop) → Array Value → State → Outcome → State → Prop} {cc : ByteArray} {nL : Nat} {ret : Option FieldType} (hy : plainName y.cls = true) (hw : ws = Cond.code y cc nL ret :: ws') (hlen : (lg_sl av).length ≤ nL)
    (body : ∀ (p : Program) (e : Env) (s : State) (m : MethodId) (args : Array Value) (below : List Frame) (meth : Method) (c : Code) (A : Nat → Prop), Cx p s m args c cc nL ws y.cls D cA A → meth.sig.returnType = ret → meth.locks = false → A = va_A (lW cA ad S) s.heap.size →
      KK p l e rm s m args below meth c nL D cA ad A (MQ below (Qc (fun S' t => va_P D vwCl (lW cA ad S') t.heap ∧ va_D A (lW cA ad S')) A) args s 0 0 A) 0 (lv_args 0 av) [] S) : Ct l y ws rm D cA ad av S Qc := by
  intro sz
  refine Met.ofW (cc := cc) (maxL := nL) (ret := ret) hy hw ?_
  intro p e s m args below meth c s₁ B hml hv
  obtain ⟨rfl, hsz, hP, hK, hD0⟩ := hv
  subst hsz
  have hD := hD0.self (sz := s.heap.size)
  generalize hAe : va_A (lW cA ad S) s.heap.size = A at hD ⊢
  have hA : ∀ q : Nat, s.heap.size ≤ q → A q := fun q h => by rw [← hAe]; exact Or.inr h
  have hl := lv_entry av (n := nL) hlen
  rw [lg_entry_eq]
  exact body p e s m av.toArray below meth c A ⟨B.exec, B.bytes, hml, findClass_of_methodNamed B.named, atoms_spec (ws := ws) B.pre, hK, hA⟩ B.returns B.notSynchronized hAe.symm s.heap [] _ hl hP hD va_S.rf
section
variable {p : Program} {l : Launch} {e : Env} {R : Room} {s : State} {m : MethodId} {args : Array Value} {below : List Frame} {meth : Method} {c : Code} {nL : Nat} {D : va_G} {cA : Nat → ClassId} {ad : Nat → Nat → Nat} {A : Nat → Prop} {Q : State → Prop} {cc : ByteArray} {Ts : List Cond} {own : String} {pc : Nat} {lv lv' : List (Nat × Value)} {st : List Value} {S : Sg}
theorem k_iret (C : Cx p s m args c cc nL Ts own D cA A) {post : Int32 → Sg → Prop} {v : Int32} (hr : meth.sig.returnType = some .int) (hk : meth.locks = false) (d : decode cc pc = .ok (.ireturn, 1)) (hw : post v S) : KK p l e R s m args below meth c nL D cA ad A (MQ below (va_Qi post (fun S' t => va_P D vwCl (lW cA ad S') t.heap ∧ va_D A (lW cA ad S')) A) args s 0 0 A) pc lv [.int v] S := fun H locs ls hl hP hD hS =>
  W.iret (v := v) C.1 C.2.1 hr (fun t ht hW => ⟨⟨v, S, rfl, hw, by rw [ht]; exact hP, hD⟩, hS.F ht⟩) hS.2.2 d hk
theorem k_zret (C : Cx p s m args c cc nL Ts own D cA A) {post : Int32 → Sg → Prop} {v : Int32} (hr : meth.sig.returnType = some .boolean) (hk : meth.locks = false) (d : decode cc pc = .ok (.ireturn, 1)) (hz : narrow .boolean (.int v) = .int v) (hw : post v S) : KK p l e R s m args below meth c nL D cA ad A (MQ below (va_Qi post (fun S' t => va_P D vwCl (lW cA ad S') t.heap ∧ va_D A (lW cA ad S')) A) args s 0 0 A) pc lv [.int v] S := fun H locs ls hl hP hD hS =>
  W.zret (v := v) (ty := .boolean) C.1 C.2.1 hr hz (fun t ht hW => ⟨⟨v, S, rfl, hw, by rw [ht]; exact hP, hD⟩, hS.F ht⟩) hS.2.2 d hk
theorem k_lret (C : Cx p s m args c cc nL Ts own D cA A) {post : Int64 → Sg → Prop} {v : Int64} (hr : meth.sig.returnType = some .long) (hk : meth.locks = false) (d : decode cc pc = .ok (.lreturn, 1)) (hw : post v S) : KK p l e R s m args below meth c nL D cA ad A (MQ below (va_Ql post (fun S' t => va_P D vwCl (lW cA ad S') t.heap ∧ va_D A (lW cA ad S')) A) args s 0 0 A) pc lv [.long v] S := fun H locs ls hl hP hD hS =>
  W.lret (v := v) C.1 C.2.1 hr (fun t ht hW => ⟨⟨v, S, rfl, hw, by rw [ht]; exact hP, hD⟩, hS.F ht⟩) hS.2.2 d hk
theorem k_vret (C : Cx p s m args c cc nL Ts own D cA A) {post : Sg → Prop} (hr : meth.sig.returnType = none) (hk : meth.locks = false) (d : decode cc pc = .ok (.return_, 1)) (hw : post S) : KK p l e R s m args below meth c nL D cA ad A (MQ below (va_Qv post (fun S' t => va_P D vwCl (lW cA ad S') t.heap ∧ va_D A (lW cA ad S')) A) args s 0 0 A) pc lv [] S := fun H locs ls hl hP hD hS =>
  W.vret C.1 C.2.1 hr (fun t ht hW => ⟨⟨S, rfl, hw, by rw [ht]; exact hP, hD⟩, hS.F ht⟩) hS.2.2 d hk
theorem k_callVi (C : Cx p s m args c cc nL Ts own D cA A) {y : MethodName} {ws : List Cond} {rm : Room} {bytes : ByteArray} {maxL n index t k ci : Nat} {ret : Option FieldType} {As rest : List Value} {post : Int32 → Sg → Prop} {Cn : String} {fs : List Value} {q : vw_C} (hM : CtI l y ws rm D cA ad (.ref (ad t k) :: As) S post) (cw : CallW R s args own Cn index y bytes maxL ret ws rm 0 0 n) (hm : (t, k) ∈ ids (nM S)) (he : cel cA ad S t k = .inr (ci, fs)) (hcl : vwCl[ci]? = some q) (hCn : q.1 = Cn) (hn : As.length = n) (hst : st = As.reverse ++ .ref (ad t k) :: rest) (hW : (rest.map fun v => v.category).sum ≤ 8) (d : decode cc pc = .ok (.invokevirtual index, 3)) (kk : ∀ (r : Int32) (S' : Sg), post r S' → KK p l e R s m args below meth c nL D cA ad A Q (pc + 3) lv (.int r :: rest) S') : KK p l e R s m args below meth c nL D cA ad A Q pc lv st S := fun H locs ls hl hP hD hS => by
  subst hst
  obtain ⟨p0, -, hq⟩ := lW_get cA ad S hm
  rw [he] at hq
  have hF := lW_free hD hS C.2.2.2.2.2.2
  have hrecv := va_recv C.2.2.2.2.2.1 hP hcl hq
  rw [hCn] at hrecv
  refine va_calli (va_runV (As := As) (rest := rest) ⟨C.1, C.2.1, C.2.2.1, C.2.2.2.1, C.2.2.2.2.1⟩ (hM H.size) cw ⟨pre_blind, hrecv, fun U hU hW => ⟨rfl, by rw [hU], by rw [hU]; exact hP, va_K.moved hW.alike C.2.2.2.2.2.1, hD.weaken (fun _ _ _ _ => trivial)⟩⟩ rfl hn hl.1 rfl (lv_room hW) d ⟨Nat.zero_le _, Nat.zero_le _⟩) hS (fun q _ h => hF q h) hF (fun r S' t H1 locs1 ht hvm hw hB hz1 hk1 hS1 => ?_)
  obtain ⟨hP1, hD1⟩ := hB
  rw [ht] at hP1
  exact kk r S' hw H1 locs1 ls hl hP1 (hD1.weaken (fun _ _ _ h => hF _ h)) hS1
theorem k_callVl (C : Cx p s m args c cc nL Ts own D cA A) {y : MethodName} {ws : List Cond} {rm : Room} {bytes : ByteArray} {maxL n index t k ci : Nat} {ret : Option FieldType} {As rest : List Value} {post : Int64 → Sg → Prop} {Cn : String} {fs : List Value} {q : vw_C} (hM : CtL l y ws rm D cA ad (.ref (ad t k) :: As) S post) (cw : CallW R s args own Cn index y bytes maxL ret ws rm 0 0 n) (hm : (t, k) ∈ ids (nM S)) (he : cel cA ad S t k = .inr (ci, fs)) (hcl : vwCl[ci]? = some q) (hCn : q.1 = Cn) (hn : As.length = n) (hst : st = As.reverse ++ .ref (ad t k) :: rest) (hW : (rest.map fun v => v.category).sum ≤ 8) (d : decode cc pc = .ok (.invokevirtual index, 3)) (kk : ∀ (r : Int64) (S' : Sg), post r S' → KK p l e R s m args below meth c nL D cA ad A Q (pc + 3) lv (.long r :: rest) S') : KK p l e R s m args below meth c nL D cA ad A Q pc lv st S := fun H locs ls hl hP hD hS => by
  subst hst
  obtain ⟨p0, -, hq⟩ := lW_get cA ad S hm
  rw [he] at hq
  have hF := lW_free hD hS C.2.2.2.2.2.2
  have hrecv := va_recv C.2.2.2.2.2.1 hP hcl hq
  rw [hCn] at hrecv
  refine va_calll (va_runV (As := As) (rest := rest) ⟨C.1, C.2.1, C.2.2.1, C.2.2.2.1, C.2.2.2.2.1⟩ (hM H.size) cw ⟨pre_blind, hrecv, fun U hU hW => ⟨rfl, by rw [hU], by rw [hU]; exact hP, va_K.moved hW.alike C.2.2.2.2.2.1, hD.weaken (fun _ _ _ _ => trivial)⟩⟩ rfl hn hl.1 rfl (lv_room hW) d ⟨Nat.zero_le _, Nat.zero_le _⟩) hS (fun q _ h => hF q h) hF (fun r S' t H1 locs1 ht hvm hw hB hz1 hk1 hS1 => ?_)
  obtain ⟨hP1, hD1⟩ := hB
  rw [ht] at hP1
  exact kk r S' hw H1 locs1 ls hl hP1 (hD1.weaken (fun _ _ _ h => hF _ h)) hS1
theorem k_callVv (C : Cx p s m args c cc nL Ts own D cA A) {y : MethodName} {ws : List Cond} {rm : Room} {bytes : ByteArray} {maxL n index t k ci : Nat} {ret : Option FieldType} {As rest : List Value} {post : Sg → Prop} {Cn : String} {fs : List Value} {q : vw_C} (hM : CtV l y ws rm D cA ad (.ref (ad t k) :: As) S post) (cw : CallW R s args own Cn index y bytes maxL ret ws rm 0 0 n) (hm : (t, k) ∈ ids (nM S)) (he : cel cA ad S t k = .inr (ci, fs)) (hcl : vwCl[ci]? = some q) (hCn : q.1 = Cn) (hn : As.length = n) (hst : st = As.reverse ++ .ref (ad t k) :: rest) (hW : (rest.map fun v => v.category).sum ≤ 8) (d : decode cc pc = .ok (.invokevirtual index, 3)) (kk : ∀ (S' : Sg), post S' → KK p l e R s m args below meth c nL D cA ad A Q (pc + 3) lv rest S') : KK p l e R s m args below meth c nL D cA ad A Q pc lv st S := fun H locs ls hl hP hD hS => by
  subst hst
  obtain ⟨p0, -, hq⟩ := lW_get cA ad S hm
  rw [he] at hq
  have hF := lW_free hD hS C.2.2.2.2.2.2
  have hrecv := va_recv C.2.2.2.2.2.1 hP hcl hq
  rw [hCn] at hrecv
  refine va_callv (va_runV (As := As) (rest := rest) ⟨C.1, C.2.1, C.2.2.1, C.2.2.2.1, C.2.2.2.2.1⟩ (hM H.size) cw ⟨pre_blind, hrecv, fun U hU hW => ⟨rfl, by rw [hU], by rw [hU]; exact hP, va_K.moved hW.alike C.2.2.2.2.2.1, hD.weaken (fun _ _ _ _ => trivial)⟩⟩ rfl hn hl.1 rfl (lv_room hW) d ⟨Nat.zero_le _, Nat.zero_le _⟩) hS (fun q _ h => hF q h) hF (fun S' t H1 locs1 ht hvm hw hB hz1 hk1 hS1 => ?_)
  obtain ⟨hP1, hD1⟩ := hB
  rw [ht] at hP1
  exact kk S' hw H1 locs1 ls hl hP1 (hD1.weaken (fun _ _ _ h => hF _ h)) hS1
end
end
