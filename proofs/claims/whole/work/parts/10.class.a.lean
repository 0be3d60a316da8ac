def wsX4_fail : List Cond := .code yX4_fail cX4_fail 1 none :: ([.classLink RX4 24 "java/lang/IllegalStateException", .initialized "java/lang/IllegalStateException"] ++ (vx_atS RX4 28 "java/lang/IllegalStateException" ["java/lang/RuntimeException", "java/lang/Exception"]).filter goodWord)
def wsX9_cleared : List Cond := .code yX9_cleared cX9_cleared 5 (some .long) :: ((wsX9_cleared_r1 ++ (wsX9_cleared_r2 ++ (wsX9_cleared_r3 ++ wsX9_cleared_r4))) ++ wsX90 ++ wsX10 ++ wsX30 ++ wsX40 ++ wsX80 ++ (vx_atS RX9 101 "java/lang/IllegalArgumentException" ["java/lang/RuntimeException", "java/lang/Exception"]).filter goodWord ++ (vx_atS RX9 111 "java/lang/IllegalStateException" ["java/lang/RuntimeException", "java/lang/Exception"]).filter goodWord)
def wsX9_rate : List Cond := .code yX9_rate cX9_rate 5 (some .long) :: ((wsX9_rate_r1 ++ (wsX9_rate_r2 ++ (wsX9_rate_r3 ++ (wsX9_rate_r4 ++ wsX9_rate_r5)))) ++ wsX90 ++ wsX50 ++ wsX10 ++ wsX30 ++ wsX40 ++ wsX80 ++ (vx_atS RX9 101 "java/lang/IllegalArgumentException" ["java/lang/RuntimeException", "java/lang/Exception"]).filter goodWord ++ (vx_atS RX9 111 "java/lang/IllegalStateException" ["java/lang/RuntimeException", "java/lang/Exception"]).filter goodWord)
def wsX9_common : List Cond := .code yX9_common cX9_common 8 (some .long) :: ((wsX9_common_r1 ++ (wsX9_common_r2 ++ (wsX9_common_r3 ++ wsX9_common_r4))) ++ wsX90 ++ wsX10 ++ wsX30 ++ wsX40 ++ wsX80 ++ (vx_atS RX9 101 "java/lang/IllegalArgumentException" ["java/lang/RuntimeException", "java/lang/Exception"]).filter goodWord ++ (vx_atS RX9 111 "java/lang/IllegalStateException" ["java/lang/RuntimeException", "java/lang/Exception"]).filter goodWord)
def wsX9_moves : List Cond := .code yX9_moves cX9_moves 4 (some .long) :: ([.classLink RX9 97 "java/lang/IllegalArgumentException", .initialized "java/lang/IllegalArgumentException", .methodLink RX9 65 yX9_markAt, .instanceMethod yX9_markAt, .selects RX9 yX9_markAt yX9_markAt, .initialized RX9, .code yX9_markAt cX9_markAt 2 (some (.object "CreepBoard$Mark")), .fieldLink RX9 54 "CreepBoard" "markCount" "I", .fieldLink RX9 11 "CreepBoard" "marks" "[LCreepBoard$Mark;", .methodLink RX9 94 yX9_isSide, .static yX9_isSide, .code yX9_isSide cX9_isSide 1 (some .boolean), .methodLink RX9 149 ⟨"CreepBoard$Mark", "speed", "(I)I"⟩, .sameMethod "CreepBoard$Mark" "CreepBoard$Mark" "speed" "(I)I", .selects RX1 ⟨"CreepBoard$Mark", "speed", "(I)I"⟩ yX3_speed, .instanceMethod yX3_speed, .initialized RX3, .code yX3_speed cX3_speed 2 (some .int), .fieldLink RX3 27 "CreepBoard$Mark" "speeds" "[I", .methodLink RX9 149 yX3_speed, .selects RX3 yX3_speed yX3_speed, .selects RX4 ⟨"CreepBoard$Mark", "speed", "(I)I"⟩ yX3_speed, .selects RX8 ⟨"CreepBoard$Mark", "speed", "(I)I"⟩ yX3_speed] ++ wsX90 ++ wsX10 ++ wsX30 ++ wsX40 ++ wsX80 ++ (vx_atS RX9 101 "java/lang/IllegalArgumentException" ["java/lang/RuntimeException", "java/lang/Exception"]).filter goodWord)
def wsX9_strain : List Cond := .code yX9_strain cX9_strain 11 (some .long) :: ((wsX9_strain_r1 ++ (wsX9_strain_r2 ++ wsX9_strain_r3)) ++ wsX90 ++ wsX10 ++ wsX30 ++ wsX40 ++ wsX80 ++ (vx_atS RX9 101 "java/lang/IllegalArgumentException" ["java/lang/RuntimeException", "java/lang/Exception"]).filter goodWord ++ (vx_atS RX9 111 "java/lang/IllegalStateException" ["java/lang/RuntimeException", "java/lang/Exception"]).filter goodWord)
def wsX9_height : List Cond := .code yX9_height cX9_height 2 (some .long) :: ((wsX9_height_r1 ++ wsX9_height_r2) ++ wsX90 ++ wsX20 ++ (vx_atS RX9 101 "java/lang/IllegalArgumentException" ["java/lang/RuntimeException", "java/lang/Exception"]).filter goodWord ++ (vx_atS RX9 111 "java/lang/IllegalStateException" ["java/lang/RuntimeException", "java/lang/Exception"]).filter goodWord)
def wsX9_element : List Cond := .code yX9_element cX9_element 4 (some .long) :: ((wsX9_element_r1 ++ wsX9_element_r2) ++ wsX90 ++ wsX60 ++ (vx_atS RX9 101 "java/lang/IllegalArgumentException" ["java/lang/RuntimeException", "java/lang/Exception"]).filter goodWord ++ (vx_atS RX9 111 "java/lang/IllegalStateException" ["java/lang/RuntimeException", "java/lang/Exception"]).filter goodWord)
def wsX9_toss : List Cond := .codeWith yX9_toss cX9_toss 5 (some .int) [(25, 29, 32, 107)] :: ((wsX9_toss_r1 ++ (wsX9_toss_r2 ++ wsX9_toss_r3)) ++ wsX90 ++ wsX60 ++ wsX10 ++ wsX30 ++ wsX40 ++ wsX80 ++ (vx_atS RX4 28 "java/lang/IllegalStateException" ["java/lang/RuntimeException", "java/lang/Exception"]).filter goodWord)
set_option maxRecDepth 20000 in
theorem ggX9_cleared_X9_markAt : GoodIn wsX9_cleared wsX9_markAt := goodIn_r _ [9, 10, 11, 85, 86, 87, 88, 89, 90, 91, 92] (by decide +kernel) (by decide +kernel)
set_option maxRecDepth 20000 in
theorem gX9_cleared_X9_markAt : GoodIn wsX9_cleared (wsV RX9 65 RX9 yX9_markAt wsX9_markAt) := goodIn_app (goodIn_of _ (by decide +kernel)) ggX9_cleared_X9_markAt
set_option maxRecDepth 20000 in
theorem ggX9_cleared_X9_isEpoch : GoodIn wsX9_cleared wsX9_isEpoch := goodIn_r _ [14] (by decide +kernel) (by decide +kernel)
set_option maxRecDepth 20000 in
theorem gX9_cleared_X9_isEpoch : GoodIn wsX9_cleared (va_wsS RX9 69 yX9_isEpoch wsX9_isEpoch) := goodIn_app (goodIn_of _ (by decide +kernel)) ggX9_cleared_X9_isEpoch
set_option maxRecDepth 20000 in
theorem ggX9_cleared_X9_isSide : GoodIn wsX9_cleared wsX9_isSide := goodIn_r _ [17] (by decide +kernel) (by decide +kernel)
set_option maxRecDepth 20000 in
theorem gX9_cleared_X9_isSide : GoodIn wsX9_cleared (va_wsS RX9 94 yX9_isSide wsX9_isSide) := goodIn_app (goodIn_of _ (by decide +kernel)) ggX9_cleared_X9_isSide
set_option maxRecDepth 20000 in
theorem ggX9_cleared_X3_isCleared : GoodIn wsX9_cleared wsX3_isCleared := goodIn_r _ [23, 24, 25, 26, 27, 28, 22, 29, 30, 31, 32, 33, 34, 35, 36, 37, 38, 39, 40, 41, 42, 93, 94, 95, 96, 97, 98, 99, 100, 101, 102, 103, 104, 105, 106, 107, 108, 109, 110, 111, 112, 113, 114, 115, 116, 117, 118, 119, 120, 121, 122, 123, 124, 125, 126, 127, 128, 129, 130, 131, 132, 133, 134, 135, 136, 137, 138, 139, 140] (by decide +kernel) (by decide +kernel)
set_option maxRecDepth 20000 in
theorem gX9_cleared_X3_isCleared_u104X1 : GoodIn wsX9_cleared (va_wsU RX9 104 RX1 "CreepBoard$Mark" ⟨"CreepBoard$Mark", "isCleared", "(I)Z"⟩ yX3_isCleared wsX3_isCleared) := goodIn_app (goodIn_of _ (by decide +kernel)) ggX9_cleared_X3_isCleared
set_option maxRecDepth 20000 in
theorem gX9_cleared_X3_isCleared : GoodIn wsX9_cleared (wsV RX9 104 RX3 yX3_isCleared wsX3_isCleared) := goodIn_app (goodIn_of _ (by decide +kernel)) ggX9_cleared_X3_isCleared
set_option maxRecDepth 20000 in
theorem gX9_cleared_X3_isCleared_u104X4 : GoodIn wsX9_cleared (va_wsU RX9 104 RX4 "CreepBoard$Mark" ⟨"CreepBoard$Mark", "isCleared", "(I)Z"⟩ yX3_isCleared wsX3_isCleared) := goodIn_app (goodIn_of _ (by decide +kernel)) ggX9_cleared_X3_isCleared
set_option maxRecDepth 20000 in
theorem gX9_cleared_X3_isCleared_u104X8 : GoodIn wsX9_cleared (va_wsU RX9 104 RX8 "CreepBoard$Mark" ⟨"CreepBoard$Mark", "isCleared", "(I)Z"⟩ yX3_isCleared wsX3_isCleared) := goodIn_app (goodIn_of _ (by decide +kernel)) ggX9_cleared_X3_isCleared
set_option maxRecDepth 20000 in
theorem ggX9_cleared_X1_clearedValue : GoodIn wsX9_cleared wsX1_clearedValue := goodIn_r _ [53, 54, 48, 55, 56, 22, 57, 58, 59, 60, 61, 62, 63, 64, 52, 65, 66, 67, 68, 41, 42, 24, 69, 70, 71, 72, 73, 93, 94, 95, 96, 97, 98, 99, 100, 101, 102, 103, 104, 105, 106, 107, 108, 109, 110, 111, 112, 113, 114, 115, 116, 117, 118, 119, 120, 121, 122, 123, 124, 125, 126, 127, 128, 129, 130, 131, 132, 133, 134, 135, 136, 137, 138, 139, 140] (by decide +kernel) (by decide +kernel)
set_option maxRecDepth 20000 in
theorem gX9_cleared_X1_clearedValue_u112X1 : GoodIn wsX9_cleared (va_wsO RX9 112 RX1 "CreepBoard$Mark" ⟨"CreepBoard$Mark", "clearedValue", "(II)J"⟩ yX1_clearedValue wsX1_clearedValue) := goodIn_app (goodIn_of _ (by decide +kernel)) ggX9_cleared_X1_clearedValue
set_option maxRecDepth 20000 in
theorem ggX9_cleared_X3_clearedValue : GoodIn wsX9_cleared wsX3_clearedValue := goodIn_r _ [57, 58, 59, 60, 61, 93, 94, 95, 96, 97, 98, 99, 100, 101, 102, 103, 104, 105, 106, 107, 108, 109, 110, 111, 112, 113, 114, 115, 116, 117, 118, 119, 120, 121, 122, 123, 124, 125, 126, 127, 128, 129, 130, 131, 132, 133, 134, 135, 136, 137, 138, 139, 140] (by decide +kernel) (by decide +kernel)
set_option maxRecDepth 20000 in
theorem gX9_cleared_X3_clearedValue : GoodIn wsX9_cleared (wsV RX9 112 RX3 yX3_clearedValue wsX3_clearedValue) := goodIn_app (goodIn_of _ (by decide +kernel)) ggX9_cleared_X3_clearedValue
set_option maxRecDepth 20000 in
theorem ggX9_cleared_X4_clearedValue : GoodIn wsX9_cleared wsX4_clearedValue := goodIn_r _ [79, 80, 81, 82, 48, 83, 56, 22, 57, 58, 59, 60, 61, 115, 116, 117, 118, 119, 120, 121, 122, 123, 124, 125, 126, 127, 128, 129, 130, 131, 132, 133, 134, 135, 136, 137, 138, 139, 140, 93, 94, 95, 96, 97, 98, 99, 100, 101, 102, 103, 104, 105, 106, 107, 108, 109, 110, 111, 112, 113, 114] (by decide +kernel) (by decide +kernel)
set_option maxRecDepth 20000 in
theorem gX9_cleared_X4_clearedValue_u112X4 : GoodIn wsX9_cleared (va_wsO RX9 112 RX4 "CreepBoard$Mark" ⟨"CreepBoard$Mark", "clearedValue", "(II)J"⟩ yX4_clearedValue wsX4_clearedValue) := goodIn_app (goodIn_of _ (by decide +kernel)) ggX9_cleared_X4_clearedValue
set_option maxRecDepth 20000 in
theorem gX9_cleared_X4_clearedValue_u112X8 : GoodIn wsX9_cleared (va_wsO RX9 112 RX8 "CreepBoard$Mark" ⟨"CreepBoard$Mark", "clearedValue", "(II)J"⟩ yX4_clearedValue wsX4_clearedValue) := goodIn_app (goodIn_of _ (by decide +kernel)) ggX9_cleared_X4_clearedValue
set_option maxRecDepth 20000 in
theorem ggX9_rate_X9_markAt : GoodIn wsX9_rate wsX9_markAt := goodIn_r _ [10, 11, 12, 111, 112, 113, 114, 115, 116, 117, 118] (by decide +kernel) (by decide +kernel)
set_option maxRecDepth 20000 in
theorem gX9_rate_X9_markAt : GoodIn wsX9_rate (wsV RX9 65 RX9 yX9_markAt wsX9_markAt) := goodIn_app (goodIn_of _ (by decide +kernel)) ggX9_rate_X9_markAt
set_option maxRecDepth 20000 in
theorem ggX9_rate_X9_isSide : GoodIn wsX9_rate wsX9_isSide := goodIn_r _ [15] (by decide +kernel) (by decide +kernel)
set_option maxRecDepth 20000 in
theorem gX9_rate_X9_isSide : GoodIn wsX9_rate (va_wsS RX9 94 yX9_isSide wsX9_isSide) := goodIn_app (goodIn_of _ (by decide +kernel)) ggX9_rate_X9_isSide
set_option maxRecDepth 20000 in
theorem ggX9_rate_X5_gather : GoodIn wsX9_rate wsX5_gather := goodIn_r _ [20, 21, 22, 23, 24, 25, 26, 27, 28, 29, 30, 31, 32, 33, 34, 35, 36, 37, 38, 39, 40, 41, 42, 43, 44, 45, 46, 47, 48, 49, 50, 51, 52, 53, 54, 55, 56, 57, 58, 59, 60, 61, 62, 63, 64, 65, 66, 67, 68, 69, 70, 71, 72, 73, 74, 75, 76, 77, 78, 79, 80, 81, 82, 83, 84, 85, 86, 87, 88, 119, 120, 121, 122, 123, 124, 125, 126, 127, 128, 129, 130, 131, 132, 133, 134, 135, 136, 137, 138, 139, 140, 141, 142, 143, 144, 145, 146, 147, 148, 149, 150, 151, 152, 153, 154, 155, 156, 157, 158, 159, 160, 161, 162, 163, 164, 165, 166, 167, 168, 169] (by decide +kernel) (by decide +kernel)
set_option maxRecDepth 20000 in
theorem gX9_rate_X5_gather : GoodIn wsX9_rate (wsV RX9 116 RX5 yX5_gather wsX5_gather) := goodIn_app (goodIn_of _ (by decide +kernel)) ggX9_rate_X5_gather
set_option maxRecDepth 20000 in
theorem ggX9_rate_X5_size : GoodIn wsX9_rate wsX5_size := goodIn_r _ [92, 21, 119, 120, 121] (by decide +kernel) (by decide +kernel)
set_option maxRecDepth 20000 in
theorem gX9_rate_X5_size : GoodIn wsX9_rate (wsV RX9 120 RX5 yX5_size wsX5_size) := goodIn_app (goodIn_of _ (by decide +kernel)) ggX9_rate_X5_size
set_option maxRecDepth 20000 in
theorem ggX9_rate_X5_rateAbove : GoodIn wsX9_rate wsX5_rateAbove := goodIn_r _ [96, 21, 22, 23, 119, 120, 121] (by decide +kernel) (by decide +kernel)
set_option maxRecDepth 20000 in
theorem gX9_rate_X5_rateAbove : GoodIn wsX9_rate (wsV RX9 127 RX5 yX5_rateAbove wsX5_rateAbove) := goodIn_app (goodIn_of _ (by decide +kernel)) ggX9_rate_X5_rateAbove
set_option maxRecDepth 20000 in
theorem ggX9_rate_X5_rateBelow : GoodIn wsX9_rate wsX5_rateBelow := goodIn_r _ [100, 21, 22, 119, 120, 121] (by decide +kernel) (by decide +kernel)
set_option maxRecDepth 20000 in
theorem gX9_rate_X5_rateBelow : GoodIn wsX9_rate (wsV RX9 131 RX5 yX5_rateBelow wsX5_rateBelow) := goodIn_app (goodIn_of _ (by decide +kernel)) ggX9_rate_X5_rateBelow
set_option maxRecDepth 20000 in
theorem ggX9_rate_X9_lowestTerms : GoodIn wsX9_rate wsX9_lowestTerms := goodIn_r _ [103, 104, 105, 106, 107, 108, 109, 9, 110] (by decide +kernel) (by decide +kernel)
set_option maxRecDepth 20000 in
theorem gX9_rate_X9_lowestTerms : GoodIn wsX9_rate (va_wsS RX9 134 yX9_lowestTerms wsX9_lowestTerms) := goodIn_app (goodIn_of _ (by decide +kernel)) ggX9_rate_X9_lowestTerms
set_option maxRecDepth 20000 in
theorem ggX9_common_X9_isEpoch : GoodIn wsX9_common wsX9_isEpoch := goodIn_r _ [9] (by decide +kernel) (by decide +kernel)
set_option maxRecDepth 20000 in
theorem gX9_common_X9_isEpoch : GoodIn wsX9_common (va_wsS RX9 69 yX9_isEpoch wsX9_isEpoch) := goodIn_app (goodIn_of _ (by decide +kernel)) ggX9_common_X9_isEpoch
set_option maxRecDepth 20000 in
theorem ggX9_common_X9_isSide : GoodIn wsX9_common wsX9_isSide := goodIn_r _ [12] (by decide +kernel) (by decide +kernel)
set_option maxRecDepth 20000 in
theorem gX9_common_X9_isSide : GoodIn wsX9_common (va_wsS RX9 94 yX9_isSide wsX9_isSide) := goodIn_app (goodIn_of _ (by decide +kernel)) ggX9_common_X9_isSide
set_option maxRecDepth 20000 in
theorem ggX9_common_X9_markAt : GoodIn wsX9_common wsX9_markAt := goodIn_r _ [16, 5, 17, 94, 95, 96, 97, 98, 99, 100, 101] (by decide +kernel) (by decide +kernel)
set_option maxRecDepth 20000 in
theorem gX9_common_X9_markAt : GoodIn wsX9_common (wsV RX9 65 RX9 yX9_markAt wsX9_markAt) := goodIn_app (goodIn_of _ (by decide +kernel)) ggX9_common_X9_markAt
set_option maxRecDepth 20000 in
theorem ggX9_common_X3_isCleared : GoodIn wsX9_common wsX3_isCleared := goodIn_r _ [23, 24, 25, 26, 27, 28, 22, 29, 30, 31, 32, 33, 34, 35, 36, 37, 38, 39, 40, 41, 42, 102, 103, 104, 105, 106, 107, 108, 109, 110, 111, 112, 113, 114, 115, 116, 117, 118, 119, 120, 121, 122, 123, 124, 125, 126, 127, 128, 129, 130, 131, 132, 133, 134, 135, 136, 137, 138, 139, 140, 141, 142, 143, 144, 145, 146, 147, 148, 149] (by decide +kernel) (by decide +kernel)
set_option maxRecDepth 20000 in
theorem gX9_common_X3_isCleared_u104X1 : GoodIn wsX9_common (va_wsU RX9 104 RX1 "CreepBoard$Mark" ⟨"CreepBoard$Mark", "isCleared", "(I)Z"⟩ yX3_isCleared wsX3_isCleared) := goodIn_app (goodIn_of _ (by decide +kernel)) ggX9_common_X3_isCleared
set_option maxRecDepth 20000 in
theorem gX9_common_X3_isCleared : GoodIn wsX9_common (wsV RX9 104 RX3 yX3_isCleared wsX3_isCleared) := goodIn_app (goodIn_of _ (by decide +kernel)) ggX9_common_X3_isCleared
set_option maxRecDepth 20000 in
theorem gX9_common_X3_isCleared_u104X4 : GoodIn wsX9_common (va_wsU RX9 104 RX4 "CreepBoard$Mark" ⟨"CreepBoard$Mark", "isCleared", "(I)Z"⟩ yX3_isCleared wsX3_isCleared) := goodIn_app (goodIn_of _ (by decide +kernel)) ggX9_common_X3_isCleared
set_option maxRecDepth 20000 in
theorem gX9_common_X3_isCleared_u104X8 : GoodIn wsX9_common (va_wsU RX9 104 RX8 "CreepBoard$Mark" ⟨"CreepBoard$Mark", "isCleared", "(I)Z"⟩ yX3_isCleared wsX3_isCleared) := goodIn_app (goodIn_of _ (by decide +kernel)) ggX9_common_X3_isCleared
set_option maxRecDepth 20000 in
theorem ggX9_common_X1_clearedValue : GoodIn wsX9_common wsX1_clearedValue := goodIn_r _ [53, 54, 48, 55, 56, 22, 57, 58, 59, 60, 61, 62, 63, 64, 52, 65, 66, 67, 68, 41, 42, 24, 69, 70, 71, 72, 73, 102, 103, 104, 105, 106, 107, 108, 109, 110, 111, 112, 113, 114, 115, 116, 117, 118, 119, 120, 121, 122, 123, 124, 125, 126, 127, 128, 129, 130, 131, 132, 133, 134, 135, 136, 137, 138, 139, 140, 141, 142, 143, 144, 145, 146, 147, 148, 149] (by decide +kernel) (by decide +kernel)
set_option maxRecDepth 20000 in
theorem gX9_common_X1_clearedValue_u112X1 : GoodIn wsX9_common (va_wsO RX9 112 RX1 "CreepBoard$Mark" ⟨"CreepBoard$Mark", "clearedValue", "(II)J"⟩ yX1_clearedValue wsX1_clearedValue) := goodIn_app (goodIn_of _ (by decide +kernel)) ggX9_common_X1_clearedValue
set_option maxRecDepth 20000 in
theorem ggX9_common_X3_clearedValue : GoodIn wsX9_common wsX3_clearedValue := goodIn_r _ [57, 58, 59, 60, 61, 102, 103, 104, 105, 106, 107, 108, 109, 110, 111, 112, 113, 114, 115, 116, 117, 118, 119, 120, 121, 122, 123, 124, 125, 126, 127, 128, 129, 130, 131, 132, 133, 134, 135, 136, 137, 138, 139, 140, 141, 142, 143, 144, 145, 146, 147, 148, 149] (by decide +kernel) (by decide +kernel)
set_option maxRecDepth 20000 in
theorem gX9_common_X3_clearedValue : GoodIn wsX9_common (wsV RX9 112 RX3 yX3_clearedValue wsX3_clearedValue) := goodIn_app (goodIn_of _ (by decide +kernel)) ggX9_common_X3_clearedValue
set_option maxRecDepth 20000 in
theorem ggX9_common_X4_clearedValue : GoodIn wsX9_common wsX4_clearedValue := goodIn_r _ [79, 80, 81, 82, 48, 83, 56, 22, 57, 58, 59, 60, 61, 124, 125, 126, 127, 128, 129, 130, 131, 132, 133, 134, 135, 136, 137, 138, 139, 140, 141, 142, 143, 144, 145, 146, 147, 148, 149, 102, 103, 104, 105, 106, 107, 108, 109, 110, 111, 112, 113, 114, 115, 116, 117, 118, 119, 120, 121, 122, 123] (by decide +kernel) (by decide +kernel)
set_option maxRecDepth 20000 in
theorem gX9_common_X4_clearedValue_u112X4 : GoodIn wsX9_common (va_wsO RX9 112 RX4 "CreepBoard$Mark" ⟨"CreepBoard$Mark", "clearedValue", "(II)J"⟩ yX4_clearedValue wsX4_clearedValue) := goodIn_app (goodIn_of _ (by decide +kernel)) ggX9_common_X4_clearedValue
set_option maxRecDepth 20000 in
theorem gX9_common_X4_clearedValue_u112X8 : GoodIn wsX9_common (va_wsO RX9 112 RX8 "CreepBoard$Mark" ⟨"CreepBoard$Mark", "clearedValue", "(II)J"⟩ yX4_clearedValue wsX4_clearedValue) := goodIn_app (goodIn_of _ (by decide +kernel)) ggX9_common_X4_clearedValue
set_option maxRecDepth 20000 in
theorem ggX9_common_X3_firstCleared : GoodIn wsX9_common wsX3_firstCleared := goodIn_r _ [89, 24, 25, 26, 27, 28, 22, 29, 30, 31, 32, 33, 34, 35, 36, 37, 38, 39, 40, 41, 42, 102, 103, 104, 105, 106, 107, 108, 109, 110, 111, 112, 113, 114, 115, 116, 117, 118, 119, 120, 121, 122, 123, 124, 125, 126, 127, 128, 129, 130, 131, 132, 133, 134, 135, 136, 137, 138, 139, 140, 141, 142, 143, 144, 145, 146, 147, 148, 149] (by decide +kernel) (by decide +kernel)
set_option maxRecDepth 20000 in
theorem gX9_common_X3_firstCleared_u143X1 : GoodIn wsX9_common (va_wsU RX9 143 RX1 "CreepBoard$Mark" ⟨"CreepBoard$Mark", "firstCleared", "(I)I"⟩ yX3_firstCleared wsX3_firstCleared) := goodIn_app (goodIn_of _ (by decide +kernel)) ggX9_common_X3_firstCleared
set_option maxRecDepth 20000 in
theorem gX9_common_X3_firstCleared : GoodIn wsX9_common (wsV RX9 143 RX3 yX3_firstCleared wsX3_firstCleared) := goodIn_app (goodIn_of _ (by decide +kernel)) ggX9_common_X3_firstCleared
set_option maxRecDepth 20000 in
theorem gX9_common_X3_firstCleared_u143X4 : GoodIn wsX9_common (va_wsU RX9 143 RX4 "CreepBoard$Mark" ⟨"CreepBoard$Mark", "firstCleared", "(I)I"⟩ yX3_firstCleared wsX3_firstCleared) := goodIn_app (goodIn_of _ (by decide +kernel)) ggX9_common_X3_firstCleared
set_option maxRecDepth 20000 in
theorem gX9_common_X3_firstCleared_u143X8 : GoodIn wsX9_common (va_wsU RX9 143 RX8 "CreepBoard$Mark" ⟨"CreepBoard$Mark", "firstCleared", "(I)I"⟩ yX3_firstCleared wsX3_firstCleared) := goodIn_app (goodIn_of _ (by decide +kernel)) ggX9_common_X3_firstCleared
set_option maxRecDepth 20000 in
theorem ggX9_moves_X9_markAt : GoodIn wsX9_moves wsX9_markAt := goodIn_r _ [7, 8, 9, 24, 25, 26, 27, 28, 29, 30, 31] (by decide +kernel) (by decide +kernel)
set_option maxRecDepth 20000 in
theorem gX9_moves_X9_markAt : GoodIn wsX9_moves (wsV RX9 65 RX9 yX9_markAt wsX9_markAt) := goodIn_app (goodIn_of _ (by decide +kernel)) ggX9_moves_X9_markAt
set_option maxRecDepth 20000 in
theorem ggX9_moves_X9_isSide : GoodIn wsX9_moves wsX9_isSide := goodIn_r _ [12] (by decide +kernel) (by decide +kernel)
set_option maxRecDepth 20000 in
theorem gX9_moves_X9_isSide : GoodIn wsX9_moves (va_wsS RX9 94 yX9_isSide wsX9_isSide) := goodIn_app (goodIn_of _ (by decide +kernel)) ggX9_moves_X9_isSide
set_option maxRecDepth 20000 in
theorem ggX9_moves_X3_speed : GoodIn wsX9_moves wsX3_speed := goodIn_r _ [18, 19, 32, 33, 34, 35, 36, 37, 38, 39, 40, 41, 42, 43, 44, 45, 46, 47, 48, 49, 50, 51, 52, 53, 54, 55, 56, 57, 58, 59, 60, 61, 62, 63, 64, 65, 66, 67, 68, 69, 70, 71, 72, 73, 74, 75, 76, 77, 78, 79] (by decide +kernel) (by decide +kernel)
set_option maxRecDepth 20000 in
theorem gX9_moves_X3_speed_u149X1 : GoodIn wsX9_moves (va_wsU RX9 149 RX1 "CreepBoard$Mark" ⟨"CreepBoard$Mark", "speed", "(I)I"⟩ yX3_speed wsX3_speed) := goodIn_app (goodIn_of _ (by decide +kernel)) ggX9_moves_X3_speed
set_option maxRecDepth 20000 in
theorem gX9_moves_X3_speed : GoodIn wsX9_moves (wsV RX9 149 RX3 yX3_speed wsX3_speed) := goodIn_app (goodIn_of _ (by decide +kernel)) ggX9_moves_X3_speed
set_option maxRecDepth 20000 in
theorem gX9_moves_X3_speed_u149X4 : GoodIn wsX9_moves (va_wsU RX9 149 RX4 "CreepBoard$Mark" ⟨"CreepBoard$Mark", "speed", "(I)I"⟩ yX3_speed wsX3_speed) := goodIn_app (goodIn_of _ (by decide +kernel)) ggX9_moves_X3_speed
set_option maxRecDepth 20000 in
theorem gX9_moves_X3_speed_u149X8 : GoodIn wsX9_moves (va_wsU RX9 149 RX8 "CreepBoard$Mark" ⟨"CreepBoard$Mark", "speed", "(I)I"⟩ yX3_speed wsX3_speed) := goodIn_app (goodIn_of _ (by decide +kernel)) ggX9_moves_X3_speed
set_option maxRecDepth 20000 in
theorem ggX9_strain_X9_markAt : GoodIn wsX9_strain wsX9_markAt := goodIn_r _ [9, 10, 11, 59, 60, 61, 62, 63, 64, 65, 66] (by decide +kernel) (by decide +kernel)
set_option maxRecDepth 20000 in
theorem gX9_strain_X9_markAt : GoodIn wsX9_strain (wsV RX9 65 RX9 yX9_markAt wsX9_markAt) := goodIn_app (goodIn_of _ (by decide +kernel)) ggX9_strain_X9_markAt
set_option maxRecDepth 20000 in
theorem ggX9_strain_X9_areaTwice : GoodIn wsX9_strain wsX9_areaTwice := goodIn_r _ [14, 15, 16, 17, 18, 19, 20, 21, 22, 23, 24, 25, 26, 27, 28, 29, 30, 31, 32, 33, 34, 35, 67, 68, 69, 70, 71, 72, 73, 74, 75, 76, 77, 78, 79, 80, 81, 82, 83, 84, 85, 86, 87, 88, 89, 90, 91, 92, 93, 94, 95, 96, 97, 98, 99, 100, 101, 102, 103, 104, 105, 106, 107, 108, 109, 110, 111, 112, 113, 114] (by decide +kernel) (by decide +kernel)
set_option maxRecDepth 20000 in
theorem gX9_strain_X9_areaTwice : GoodIn wsX9_strain (va_wsS RX9 165 yX9_areaTwice wsX9_areaTwice) := goodIn_app (goodIn_of _ (by decide +kernel)) ggX9_strain_X9_areaTwice
set_option maxRecDepth 20000 in
theorem ggX9_strain_X9_strainAbove : GoodIn wsX9_strain wsX9_strainAbove := goodIn_r _ [38, 15, 16, 17, 18, 19, 20, 21, 22, 23, 24, 25, 26, 27, 28, 29, 30, 31, 32, 33, 34, 35, 39, 40, 41, 42, 43, 44, 45, 46, 47, 48, 67, 68, 69, 70, 71, 72, 73, 74, 75, 76, 77, 78, 79, 80, 81, 82, 83, 84, 85, 86, 87, 88, 89, 90, 91, 92, 93, 94, 95, 96, 97, 98, 99, 100, 101, 102, 103, 104, 105, 106, 107, 108, 109, 110, 111, 112, 113, 114] (by decide +kernel) (by decide +kernel)
set_option maxRecDepth 20000 in
theorem gX9_strain_X9_strainAbove : GoodIn wsX9_strain (va_wsS RX9 171 yX9_strainAbove wsX9_strainAbove) := goodIn_app (goodIn_of _ (by decide +kernel)) ggX9_strain_X9_strainAbove
set_option maxRecDepth 20000 in
theorem ggX9_strain_X9_lowestTerms : GoodIn wsX9_strain wsX9_lowestTerms := goodIn_r _ [51, 52, 53, 54, 55, 56, 57, 8, 58] (by decide +kernel) (by decide +kernel)
set_option maxRecDepth 20000 in
theorem gX9_strain_X9_lowestTerms : GoodIn wsX9_strain (va_wsS RX9 134 yX9_lowestTerms wsX9_lowestTerms) := goodIn_app (goodIn_of _ (by decide +kernel)) ggX9_strain_X9_lowestTerms
set_option maxRecDepth 20000 in
theorem ggX9_height_X9_markAt : GoodIn wsX9_height wsX9_markAt := goodIn_r _ [10, 11, 12, 49, 50, 51, 52, 53, 54, 55, 56] (by decide +kernel) (by decide +kernel)
set_option maxRecDepth 20000 in
theorem gX9_height_X9_markAt : GoodIn wsX9_height (wsV RX9 65 RX9 yX9_markAt wsX9_markAt) := goodIn_app (goodIn_of _ (by decide +kernel)) ggX9_height_X9_markAt
set_option maxRecDepth 20000 in
theorem ggX9_height_X2_leadsTo : GoodIn wsX9_height wsX2_leadsTo := goodIn_r _ [17, 18, 19, 20, 21, 16, 22, 23, 24, 25, 26, 27, 28, 29, 30, 31, 32, 33, 34, 35, 36, 37, 38, 39, 40, 41, 42, 43, 44, 57, 58, 59, 60, 61, 62, 63, 64, 65, 66, 67] (by decide +kernel) (by decide +kernel)
set_option maxRecDepth 20000 in
theorem gX9_height_X2_leadsTo : GoodIn wsX9_height (wsV RX9 236 RX2 yX2_leadsTo wsX2_leadsTo) := goodIn_app (goodIn_of _ (by decide +kernel)) ggX9_height_X2_leadsTo
set_option maxRecDepth 20000 in
theorem ggX9_height_X2_heightOf : GoodIn wsX9_height wsX2_heightOf := goodIn_r _ [48, 37, 19, 20, 21, 16, 22, 23, 24, 25, 26, 27, 28, 29, 30, 31, 32, 18, 33, 34, 35, 36, 38, 39, 40, 41, 42, 43, 44, 57, 58, 59, 60, 61, 62, 63, 64, 65, 66, 67] (by decide +kernel) (by decide +kernel)
set_option maxRecDepth 20000 in
theorem gX9_height_X2_heightOf : GoodIn wsX9_height (wsV RX9 241 RX2 yX2_heightOf wsX2_heightOf) := goodIn_app (goodIn_of _ (by decide +kernel)) ggX9_height_X2_heightOf
set_option maxRecDepth 20000 in
theorem ggX9_element_X9_shelfAt : GoodIn wsX9_element wsX9_shelfAt := goodIn_r _ [9, 10, 27, 28, 29, 30, 31, 32, 33, 34] (by decide +kernel) (by decide +kernel)
set_option maxRecDepth 20000 in
theorem gX9_element_X9_shelfAt : GoodIn wsX9_element (wsV RX9 251 RX9 yX9_shelfAt wsX9_shelfAt) := goodIn_app (goodIn_of _ (by decide +kernel)) ggX9_element_X9_shelfAt
set_option maxRecDepth 20000 in
theorem ggX9_element_X6_holdsRow : GoodIn wsX9_element wsX6_holdsRow := goodIn_r _ [15, 16, 35, 36, 37, 38] (by decide +kernel) (by decide +kernel)
set_option maxRecDepth 20000 in
theorem gX9_element_X6_holdsRow : GoodIn wsX9_element (wsV RX9 271 RX6 yX6_holdsRow wsX6_holdsRow) := goodIn_app (goodIn_of _ (by decide +kernel)) ggX9_element_X6_holdsRow
set_option maxRecDepth 20000 in
theorem ggX9_element_X6_size : GoodIn wsX9_element wsX6_size := goodIn_r _ [20, 21, 35, 36, 37, 38] (by decide +kernel) (by decide +kernel)
set_option maxRecDepth 20000 in
theorem gX9_element_X6_size : GoodIn wsX9_element (wsV RX9 274 RX6 yX6_size wsX6_size) := goodIn_app (goodIn_of _ (by decide +kernel)) ggX9_element_X6_size
set_option maxRecDepth 20000 in
theorem ggX9_element_X6_valueAt : GoodIn wsX9_element wsX6_valueAt := goodIn_r _ [25, 26, 35, 36, 37, 38] (by decide +kernel) (by decide +kernel)
set_option maxRecDepth 20000 in
theorem gX9_element_X6_valueAt : GoodIn wsX9_element (wsV RX9 277 RX6 yX6_valueAt wsX6_valueAt) := goodIn_app (goodIn_of _ (by decide +kernel)) ggX9_element_X6_valueAt
set_option maxRecDepth 20000 in
theorem ggX9_toss_X9_refusalOfMarkOn : GoodIn wsX9_toss wsX9_refusalOfMarkOn := goodIn_r _ [6, 7, 8, 9, 5, 10, 11, 12, 13, 14, 15, 16, 17, 53, 54, 55, 56, 57, 58, 59, 60, 61, 62, 63, 64] (by decide +kernel) (by decide +kernel)
set_option maxRecDepth 20000 in
theorem gX9_toss_X9_refusalOfMarkOn : GoodIn wsX9_toss (wsV RX9 290 RX9 yX9_refusalOfMarkOn wsX9_refusalOfMarkOn) := goodIn_app (goodIn_of _ (by decide +kernel)) ggX9_toss_X9_refusalOfMarkOn
set_option maxRecDepth 20000 in
theorem ggX9_toss_X9_markOn : GoodIn wsX9_toss wsX9_markOn := goodIn_r _ [21, 7, 8, 9, 5, 10, 11, 22, 23, 24, 15, 25, 26, 53, 54, 55, 56, 57, 58, 59, 60, 61, 62, 63, 64] (by decide +kernel) (by decide +kernel)
set_option maxRecDepth 20000 in
theorem gX9_toss_X9_markOn : GoodIn wsX9_toss (wsV RX9 293 RX9 yX9_markOn wsX9_markOn) := goodIn_app (goodIn_of _ (by decide +kernel)) ggX9_toss_X9_markOn
set_option maxRecDepth 20000 in
theorem ggX9_toss_X3_fail : GoodIn wsX9_toss wsX3_fail := goodIn_r _ [32] (by decide +kernel) (by decide +kernel)
set_option maxRecDepth 20000 in
theorem gX9_toss_X3_fail_u299X1 : GoodIn wsX9_toss (va_wsU RX9 299 RX1 "CreepBoard$Mark" ⟨"CreepBoard$Mark", "fail", "()V"⟩ yX3_fail wsX3_fail) := goodIn_app (goodIn_of _ (by decide +kernel)) ggX9_toss_X3_fail
set_option maxRecDepth 20000 in
theorem gX9_toss_X3_fail : GoodIn wsX9_toss (wsV RX9 299 RX3 yX3_fail wsX3_fail) := goodIn_app (goodIn_of _ (by decide +kernel)) ggX9_toss_X3_fail
set_option maxRecDepth 20000 in
theorem ggX9_toss_X4_fail : GoodIn wsX9_toss wsX4_fail := goodIn_ca (goodIn_r _ [39, 40, 41] (by decide +kernel) (by decide +kernel)) (goodIn_sub (fun _ h => List.mem_cons_of_mem _ (List.mem_append_right _ h)) (by decide +kernel))
set_option maxRecDepth 20000 in
theorem gX9_toss_X4_fail_u299X4 : GoodIn wsX9_toss (va_wsO RX9 299 RX4 "CreepBoard$Mark" ⟨"CreepBoard$Mark", "fail", "()V"⟩ yX4_fail wsX4_fail) := goodIn_app (goodIn_of _ (by decide +kernel)) ggX9_toss_X4_fail
set_option maxRecDepth 20000 in
theorem gX9_toss_X4_fail_u299X8 : GoodIn wsX9_toss (va_wsO RX9 299 RX8 "CreepBoard$Mark" ⟨"CreepBoard$Mark", "fail", "()V"⟩ yX4_fail wsX4_fail) := goodIn_app (goodIn_of _ (by decide +kernel)) ggX9_toss_X4_fail
set_option maxRecDepth 20000 in
theorem ggX9_toss_X3_number : GoodIn wsX9_toss wsX3_number := goodIn_r _ [47, 48, 65, 66, 67, 68, 69, 70, 71, 72, 73, 74, 75, 76, 77, 78, 79, 80, 81, 82, 83, 84, 85, 86, 87, 88, 89, 90, 91, 92, 93, 94, 95, 96, 97, 98, 99, 100, 101, 102, 103, 104, 105, 106, 107, 108, 109, 110, 111, 112] (by decide +kernel) (by decide +kernel)
set_option maxRecDepth 20000 in
theorem gX9_toss_X3_number_u302X1 : GoodIn wsX9_toss (va_wsU RX9 302 RX1 "CreepBoard$Mark" ⟨"CreepBoard$Mark", "number", "()I"⟩ yX3_number wsX3_number) := goodIn_app (goodIn_of _ (by decide +kernel)) ggX9_toss_X3_number
set_option maxRecDepth 20000 in
theorem gX9_toss_X3_number : GoodIn wsX9_toss (wsV RX9 302 RX3 yX3_number wsX3_number) := goodIn_app (goodIn_of _ (by decide +kernel)) ggX9_toss_X3_number
set_option maxRecDepth 20000 in
theorem gX9_toss_X3_number_u302X4 : GoodIn wsX9_toss (va_wsU RX9 302 RX4 "CreepBoard$Mark" ⟨"CreepBoard$Mark", "number", "()I"⟩ yX3_number wsX3_number) := goodIn_app (goodIn_of _ (by decide +kernel)) ggX9_toss_X3_number
set_option maxRecDepth 20000 in
theorem gX9_toss_X3_number_u302X8 : GoodIn wsX9_toss (va_wsU RX9 302 RX8 "CreepBoard$Mark" ⟨"CreepBoard$Mark", "number", "()I"⟩ yX3_number wsX3_number) := goodIn_app (goodIn_of _ (by decide +kernel)) ggX9_toss_X3_number
