def wsX10_init_r1 : List Cond := [Cond.methodLink RX10 1 objectInit, Cond.instanceMethod objectInit, Cond.code objectInit ⟨#[0xb1]⟩ 1 none, Cond.fieldLink RX10 7 "CreepBoardModel" "thrown" "I", Cond.fieldLink RX10 13 "CreepBoardModel" "marks" "I", Cond.arrayClass .int, Cond.fieldLink RX10 16 "CreepBoardModel" "kind" "[I", Cond.fieldLink RX10 20 "CreepBoardModel" "x" "[I", Cond.fieldLink RX10 23 "CreepBoardModel" "y" "[I", Cond.fieldLink RX10 26 "CreepBoardModel" "offset" "[I", Cond.fieldLink RX10 29 "CreepBoardModel" "since" "[I", Cond.fieldLink RX10 32 "CreepBoardModel" "steps" "[I", Cond.arrayClass .boolean, Cond.fieldLink RX10 35 "CreepBoardModel" "isRead" "[Z", Cond.fieldLink RX10 39 "CreepBoardModel" "reading" "[I", Cond.fieldLink RX10 42 "CreepBoardModel" "stepAt" "[I", Cond.fieldLink RX10 45 "CreepBoardModel" "step" "[I", Cond.fieldLink RX10 48 "CreepBoardModel" "east" "[I", Cond.fieldLink RX10 51 "CreepBoardModel" "north" "[I", Cond.fieldLink RX10 54 "CreepBoardModel" "fewest" "[I", Cond.fieldLink RX10 57 "CreepBoardModel" "ofMark" "[I", Cond.fieldLink RX10 60 "CreepBoardModel" "isOne" "[Z", Cond.fieldLink RX10 63 "CreepBoardModel" "tolerance" "I", Cond.fieldLink RX10 66 "CreepBoardModel" "green" "[I"]
def wsX10_init_r2 : List Cond := [Cond.fieldLink RX10 69 "CreepBoardModel" "fitting" "I", Cond.fieldLink RX10 72 "CreepBoardModel" "leastSlip" "[I", Cond.fieldLink RX10 75 "CreepBoardModel" "mostSlip" "[I", Cond.fieldLink RX10 78 "CreepBoardModel" "lines" "I", Cond.fieldLink RX10 81 "CreepBoardModel" "from" "[I", Cond.fieldLink RX10 84 "CreepBoardModel" "to" "[I", Cond.fieldLink RX10 87 "CreepBoardModel" "rise" "[I", Cond.fieldLink RX10 90 "CreepBoardModel" "group" "[I", Cond.arrayClass .long, Cond.fieldLink RX10 93 "CreepBoardModel" "above" "[J", Cond.fieldLink RX10 97 "CreepBoardModel" "held" "[I", Cond.fieldLink RX10 100 "CreepBoardModel" "heldMark" "[I", Cond.fieldLink RX10 103 "CreepBoardModel" "size" "[I", Cond.fieldLink RX10 106 "CreepBoardModel" "item" "[J", Cond.fieldLink RX10 109 "CreepBoardModel" "aside" "[J"]
def wsX10_init : List Cond := .code yX10_init cX10_init 1 none :: ((wsX10_init_r1 ++ wsX10_init_r2) ++ wsX100)
def wsX10_thrown : List Cond := .code yX10_thrown cX10_thrown 1 (some .int) :: ([.fieldLink RX10 7 "CreepBoardModel" "thrown" "I"] ++ wsX100)
def wsX10_in : List Cond := .code yX10_in cX10_in 4 (some .boolean) :: ([])
def wsX10_isMark : List Cond := .code yX10_isMark cX10_isMark 2 (some .boolean) :: ([.fieldLink RX10 13 "CreepBoardModel" "marks" "I", .methodLink RX10 112 yX10_in, .instanceMethod yX10_in, .selects RX10 yX10_in yX10_in, .initialized RX10, .code yX10_in cX10_in 4 (some .boolean)] ++ wsX100)
def wsX10_isEpoch : List Cond := .code yX10_isEpoch cX10_isEpoch 2 (some .boolean) :: ([.methodLink RX10 112 yX10_in, .instanceMethod yX10_in, .selects RX10 yX10_in yX10_in, .initialized RX10, .code yX10_in cX10_in 4 (some .boolean)])
def wsX10_isSide : List Cond := .code yX10_isSide cX10_isSide 2 (some .boolean) :: ([])
def wsX10_hasAntenna : List Cond := .code yX10_hasAntenna cX10_hasAntenna 2 (some .boolean) :: ([.fieldLink RX10 16 "CreepBoardModel" "kind" "[I"] ++ wsX100)
def wsX10_mark : List Cond := .code yX10_mark cX10_mark 4 (some .int) :: ([.fieldLink RX10 13 "CreepBoardModel" "marks" "I", .fieldLink RX10 16 "CreepBoardModel" "kind" "[I", .fieldLink RX10 20 "CreepBoardModel" "x" "[I", .fieldLink RX10 23 "CreepBoardModel" "y" "[I", .methodLink RX10 112 yX10_in, .instanceMethod yX10_in, .selects RX10 yX10_in yX10_in, .initialized RX10, .code yX10_in cX10_in 4 (some .boolean)] ++ wsX100)
def wsX10_antenna : List Cond := .code yX10_antenna cX10_antenna 5 (some .int) :: ([.fieldLink RX10 26 "CreepBoardModel" "offset" "[I", .fieldLink RX10 29 "CreepBoardModel" "since" "[I", .methodLink RX10 116 yX10_isMark, .instanceMethod yX10_isMark, .selects RX10 yX10_isMark yX10_isMark, .initialized RX10, .code yX10_isMark cX10_isMark 2 (some .boolean), .fieldLink RX10 13 "CreepBoardModel" "marks" "I", .methodLink RX10 112 yX10_in, .instanceMethod yX10_in, .selects RX10 yX10_in yX10_in, .code yX10_in cX10_in 4 (some .boolean), .methodLink RX10 120 yX10_isEpoch, .instanceMethod yX10_isEpoch, .selects RX10 yX10_isEpoch yX10_isEpoch, .code yX10_isEpoch cX10_isEpoch 2 (some .boolean), .methodLink RX10 123 yX10_hasAntenna, .instanceMethod yX10_hasAntenna, .selects RX10 yX10_hasAntenna yX10_hasAntenna, .code yX10_hasAntenna cX10_hasAntenna 2 (some .boolean), .fieldLink RX10 16 "CreepBoardModel" "kind" "[I"] ++ wsX100)
def wsX10_spot : List Cond := .code yX10_spot cX10_spot 3 (some .int) :: ([])
def wsX10_read : List Cond := .code yX10_read cX10_read 6 (some .int) :: ([.constant RX10 126 (-100000), .constant RX10 127 (100000), .fieldLink RX10 35 "CreepBoardModel" "isRead" "[Z", .fieldLink RX10 39 "CreepBoardModel" "reading" "[I", .methodLink RX10 116 yX10_isMark, .instanceMethod yX10_isMark, .selects RX10 yX10_isMark yX10_isMark, .initialized RX10, .code yX10_isMark cX10_isMark 2 (some .boolean), .fieldLink RX10 13 "CreepBoardModel" "marks" "I", .methodLink RX10 112 yX10_in, .instanceMethod yX10_in, .selects RX10 yX10_in yX10_in, .code yX10_in cX10_in 4 (some .boolean), .methodLink RX10 120 yX10_isEpoch, .instanceMethod yX10_isEpoch, .selects RX10 yX10_isEpoch yX10_isEpoch, .code yX10_isEpoch cX10_isEpoch 2 (some .boolean), .methodLink RX10 128 yX10_spot, .instanceMethod yX10_spot, .selects RX10 yX10_spot yX10_spot, .code yX10_spot cX10_spot 3 (some .int)] ++ wsX100)
def wsX10_gap : List Cond := .code yX10_gap cX10_gap 4 (some .int) :: ([.fieldLink RX10 35 "CreepBoardModel" "isRead" "[Z", .methodLink RX10 116 yX10_isMark, .instanceMethod yX10_isMark, .selects RX10 yX10_isMark yX10_isMark, .initialized RX10, .code yX10_isMark cX10_isMark 2 (some .boolean), .fieldLink RX10 13 "CreepBoardModel" "marks" "I", .methodLink RX10 112 yX10_in, .instanceMethod yX10_in, .selects RX10 yX10_in yX10_in, .code yX10_in cX10_in 4 (some .boolean), .methodLink RX10 120 yX10_isEpoch, .instanceMethod yX10_isEpoch, .selects RX10 yX10_isEpoch yX10_isEpoch, .code yX10_isEpoch cX10_isEpoch 2 (some .boolean), .methodLink RX10 128 yX10_spot, .instanceMethod yX10_spot, .selects RX10 yX10_spot yX10_spot, .code yX10_spot cX10_spot 3 (some .int)] ++ wsX100)
def wsX10_step : List Cond := .code yX10_step cX10_step 6 (some .int) :: ([.fieldLink RX10 32 "CreepBoardModel" "steps" "[I", .fieldLink RX10 42 "CreepBoardModel" "stepAt" "[I", .fieldLink RX10 45 "CreepBoardModel" "step" "[I", .methodLink RX10 116 yX10_isMark, .instanceMethod yX10_isMark, .selects RX10 yX10_isMark yX10_isMark, .initialized RX10, .code yX10_isMark cX10_isMark 2 (some .boolean), .fieldLink RX10 13 "CreepBoardModel" "marks" "I", .methodLink RX10 112 yX10_in, .instanceMethod yX10_in, .selects RX10 yX10_in yX10_in, .code yX10_in cX10_in 4 (some .boolean), .methodLink RX10 120 yX10_isEpoch, .instanceMethod yX10_isEpoch, .selects RX10 yX10_isEpoch yX10_isEpoch, .code yX10_isEpoch cX10_isEpoch 2 (some .boolean)] ++ wsX100)
def wsX10_isLeftOut : List Cond := .code yX10_isLeftOut cX10_isLeftOut 5 (some .boolean) :: ([.fieldLink RX10 35 "CreepBoardModel" "isRead" "[Z", .fieldLink RX10 16 "CreepBoardModel" "kind" "[I", .methodLink RX10 128 yX10_spot, .instanceMethod yX10_spot, .selects RX10 yX10_spot yX10_spot, .initialized RX10, .code yX10_spot cX10_spot 3 (some .int)] ++ wsX100)
def wsX10_isCleared : List Cond := .code yX10_isCleared cX10_isCleared 3 (some .boolean) :: ([.fieldLink RX10 35 "CreepBoardModel" "isRead" "[Z", .methodLink RX10 128 yX10_spot, .instanceMethod yX10_spot, .selects RX10 yX10_spot yX10_spot, .initialized RX10, .code yX10_spot cX10_spot 3 (some .int), .methodLink RX10 132 yX10_isLeftOut, .instanceMethod yX10_isLeftOut, .selects RX10 yX10_isLeftOut yX10_isLeftOut, .code yX10_isLeftOut cX10_isLeftOut 5 (some .boolean), .fieldLink RX10 16 "CreepBoardModel" "kind" "[I"] ++ wsX100)
def wsX10_withoutSteps : List Cond := .code yX10_withoutSteps cX10_withoutSteps 7 (some .long) :: ([.fieldLink RX10 39 "CreepBoardModel" "reading" "[I", .fieldLink RX10 32 "CreepBoardModel" "steps" "[I", .fieldLink RX10 42 "CreepBoardModel" "stepAt" "[I", .fieldLink RX10 45 "CreepBoardModel" "step" "[I", .methodLink RX10 128 yX10_spot, .instanceMethod yX10_spot, .selects RX10 yX10_spot yX10_spot, .initialized RX10, .code yX10_spot cX10_spot 3 (some .int)] ++ wsX100)
def wsX10_meanOf : List Cond := .code yX10_meanOf cX10_meanOf 8 (some .long) :: ([.fieldLink RX10 35 "CreepBoardModel" "isRead" "[Z", .fieldLink RX10 39 "CreepBoardModel" "reading" "[I", .methodLink RX10 128 yX10_spot, .instanceMethod yX10_spot, .selects RX10 yX10_spot yX10_spot, .initialized RX10, .code yX10_spot cX10_spot 3 (some .int)] ++ wsX100)
def wsX10_clear_r1 : List Cond := [Cond.fieldLink RX10 29 "CreepBoardModel" "since" "[I", Cond.fieldLink RX10 26 "CreepBoardModel" "offset" "[I", Cond.fieldLink RX10 16 "CreepBoardModel" "kind" "[I", Cond.methodLink RX10 136 yX10_withoutSteps, Cond.instanceMethod yX10_withoutSteps, Cond.selects RX10 yX10_withoutSteps yX10_withoutSteps, Cond.initialized RX10, Cond.code yX10_withoutSteps cX10_withoutSteps 7 (some .long), Cond.fieldLink RX10 39 "CreepBoardModel" "reading" "[I", Cond.fieldLink RX10 32 "CreepBoardModel" "steps" "[I", Cond.fieldLink RX10 42 "CreepBoardModel" "stepAt" "[I", Cond.fieldLink RX10 45 "CreepBoardModel" "step" "[I", Cond.methodLink RX10 128 yX10_spot, Cond.instanceMethod yX10_spot, Cond.selects RX10 yX10_spot yX10_spot, Cond.code yX10_spot cX10_spot 3 (some .int), Cond.methodLink RX10 123 yX10_hasAntenna, Cond.instanceMethod yX10_hasAntenna, Cond.selects RX10 yX10_hasAntenna yX10_hasAntenna, Cond.code yX10_hasAntenna cX10_hasAntenna 2 (some .boolean), Cond.methodLink RX10 140 yX10_meanOf, Cond.instanceMethod yX10_meanOf, Cond.selects RX10 yX10_meanOf yX10_meanOf, Cond.code yX10_meanOf cX10_meanOf 8 (some .long)]
def wsX10_clear_r2 : List Cond := [Cond.fieldLink RX10 35 "CreepBoardModel" "isRead" "[Z"]
def wsX10_clear : List Cond := .code yX10_clear cX10_clear 6 (some .long) :: ((wsX10_clear_r1 ++ wsX10_clear_r2) ++ wsX100)
def wsX10_cleared_r1 : List Cond := [Cond.fieldLink RX10 7 "CreepBoardModel" "thrown" "I", Cond.methodLink RX10 116 yX10_isMark, Cond.instanceMethod yX10_isMark, Cond.selects RX10 yX10_isMark yX10_isMark, Cond.initialized RX10, Cond.code yX10_isMark cX10_isMark 2 (some .boolean), Cond.fieldLink RX10 13 "CreepBoardModel" "marks" "I", Cond.methodLink RX10 112 yX10_in, Cond.instanceMethod yX10_in, Cond.selects RX10 yX10_in yX10_in, Cond.code yX10_in cX10_in 4 (some .boolean), Cond.methodLink RX10 120 yX10_isEpoch, Cond.instanceMethod yX10_isEpoch, Cond.selects RX10 yX10_isEpoch yX10_isEpoch, Cond.code yX10_isEpoch cX10_isEpoch 2 (some .boolean), Cond.methodLink RX10 143 yX10_isSide, Cond.instanceMethod yX10_isSide, Cond.selects RX10 yX10_isSide yX10_isSide, Cond.code yX10_isSide cX10_isSide 2 (some .boolean), Cond.methodLink RX10 146 yX10_isCleared, Cond.instanceMethod yX10_isCleared, Cond.selects RX10 yX10_isCleared yX10_isCleared, Cond.code yX10_isCleared cX10_isCleared 3 (some .boolean), Cond.fieldLink RX10 35 "CreepBoardModel" "isRead" "[Z"]
def wsX10_cleared_r2 : List Cond := [Cond.methodLink RX10 128 yX10_spot, Cond.instanceMethod yX10_spot, Cond.selects RX10 yX10_spot yX10_spot, Cond.code yX10_spot cX10_spot 3 (some .int), Cond.methodLink RX10 132 yX10_isLeftOut, Cond.instanceMethod yX10_isLeftOut, Cond.selects RX10 yX10_isLeftOut yX10_isLeftOut, Cond.code yX10_isLeftOut cX10_isLeftOut 5 (some .boolean), Cond.fieldLink RX10 16 "CreepBoardModel" "kind" "[I", Cond.methodLink RX10 149 yX10_clear, Cond.instanceMethod yX10_clear, Cond.selects RX10 yX10_clear yX10_clear, Cond.code yX10_clear cX10_clear 6 (some .long), Cond.fieldLink RX10 29 "CreepBoardModel" "since" "[I", Cond.fieldLink RX10 26 "CreepBoardModel" "offset" "[I", Cond.methodLink RX10 136 yX10_withoutSteps, Cond.instanceMethod yX10_withoutSteps, Cond.selects RX10 yX10_withoutSteps yX10_withoutSteps, Cond.code yX10_withoutSteps cX10_withoutSteps 7 (some .long), Cond.fieldLink RX10 39 "CreepBoardModel" "reading" "[I", Cond.fieldLink RX10 32 "CreepBoardModel" "steps" "[I", Cond.fieldLink RX10 42 "CreepBoardModel" "stepAt" "[I", Cond.fieldLink RX10 45 "CreepBoardModel" "step" "[I", Cond.methodLink RX10 123 yX10_hasAntenna]
def wsX10_cleared_r3 : List Cond := [Cond.instanceMethod yX10_hasAntenna, Cond.selects RX10 yX10_hasAntenna yX10_hasAntenna, Cond.code yX10_hasAntenna cX10_hasAntenna 2 (some .boolean), Cond.methodLink RX10 140 yX10_meanOf, Cond.instanceMethod yX10_meanOf, Cond.selects RX10 yX10_meanOf yX10_meanOf, Cond.code yX10_meanOf cX10_meanOf 8 (some .long)]
def wsX10_cleared : List Cond := .code yX10_cleared cX10_cleared 4 (some .long) :: ((wsX10_cleared_r1 ++ (wsX10_cleared_r2 ++ wsX10_cleared_r3)) ++ wsX100)
def wsX10_manyOf : List Cond := .code yX10_manyOf cX10_manyOf 4 (some .int) :: ([.methodLink RX10 146 yX10_isCleared, .instanceMethod yX10_isCleared, .selects RX10 yX10_isCleared yX10_isCleared, .initialized RX10, .code yX10_isCleared cX10_isCleared 3 (some .boolean), .fieldLink RX10 35 "CreepBoardModel" "isRead" "[Z", .methodLink RX10 128 yX10_spot, .instanceMethod yX10_spot, .selects RX10 yX10_spot yX10_spot, .code yX10_spot cX10_spot 3 (some .int), .methodLink RX10 132 yX10_isLeftOut, .instanceMethod yX10_isLeftOut, .selects RX10 yX10_isLeftOut yX10_isLeftOut, .code yX10_isLeftOut cX10_isLeftOut 5 (some .boolean), .fieldLink RX10 16 "CreepBoardModel" "kind" "[I"] ++ wsX100)
def wsX10_many_r1 : List Cond := [Cond.methodLink RX10 116 yX10_isMark, Cond.instanceMethod yX10_isMark, Cond.selects RX10 yX10_isMark yX10_isMark, Cond.initialized RX10, Cond.code yX10_isMark cX10_isMark 2 (some .boolean), Cond.fieldLink RX10 13 "CreepBoardModel" "marks" "I", Cond.methodLink RX10 112 yX10_in, Cond.instanceMethod yX10_in, Cond.selects RX10 yX10_in yX10_in, Cond.code yX10_in cX10_in 4 (some .boolean), Cond.methodLink RX10 152 yX10_manyOf, Cond.instanceMethod yX10_manyOf, Cond.selects RX10 yX10_manyOf yX10_manyOf, Cond.code yX10_manyOf cX10_manyOf 4 (some .int), Cond.methodLink RX10 146 yX10_isCleared, Cond.instanceMethod yX10_isCleared, Cond.selects RX10 yX10_isCleared yX10_isCleared, Cond.code yX10_isCleared cX10_isCleared 3 (some .boolean), Cond.fieldLink RX10 35 "CreepBoardModel" "isRead" "[Z", Cond.methodLink RX10 128 yX10_spot, Cond.instanceMethod yX10_spot, Cond.selects RX10 yX10_spot yX10_spot, Cond.code yX10_spot cX10_spot 3 (some .int), Cond.methodLink RX10 132 yX10_isLeftOut]
def wsX10_many_r2 : List Cond := [Cond.instanceMethod yX10_isLeftOut, Cond.selects RX10 yX10_isLeftOut yX10_isLeftOut, Cond.code yX10_isLeftOut cX10_isLeftOut 5 (some .boolean), Cond.fieldLink RX10 16 "CreepBoardModel" "kind" "[I"]
def wsX10_many : List Cond := .code yX10_many cX10_many 2 (some .int) :: ((wsX10_many_r1 ++ wsX10_many_r2) ++ wsX100)
def wsX10_divisor : List Cond := .code yX10_divisor cX10_divisor 11 (some .long) :: ([])
def wsX10_lowest : List Cond := .code yX10_lowest cX10_lowest 8 (some .long) :: ([.methodLink RX10 156 yX10_divisor, .instanceMethod yX10_divisor, .selects RX10 yX10_divisor yX10_divisor, .initialized RX10, .code yX10_divisor cX10_divisor 11 (some .long)])
def wsX10_rate_r1 : List Cond := [Cond.fieldLink RX10 7 "CreepBoardModel" "thrown" "I", Cond.methodLink RX10 116 yX10_isMark, Cond.instanceMethod yX10_isMark, Cond.selects RX10 yX10_isMark yX10_isMark, Cond.initialized RX10, Cond.code yX10_isMark cX10_isMark 2 (some .boolean), Cond.fieldLink RX10 13 "CreepBoardModel" "marks" "I", Cond.methodLink RX10 112 yX10_in, Cond.instanceMethod yX10_in, Cond.selects RX10 yX10_in yX10_in, Cond.code yX10_in cX10_in 4 (some .boolean), Cond.methodLink RX10 143 yX10_isSide, Cond.instanceMethod yX10_isSide, Cond.selects RX10 yX10_isSide yX10_isSide, Cond.code yX10_isSide cX10_isSide 2 (some .boolean), Cond.methodLink RX10 152 yX10_manyOf, Cond.instanceMethod yX10_manyOf, Cond.selects RX10 yX10_manyOf yX10_manyOf, Cond.code yX10_manyOf cX10_manyOf 4 (some .int), Cond.methodLink RX10 146 yX10_isCleared, Cond.instanceMethod yX10_isCleared, Cond.selects RX10 yX10_isCleared yX10_isCleared, Cond.code yX10_isCleared cX10_isCleared 3 (some .boolean), Cond.fieldLink RX10 35 "CreepBoardModel" "isRead" "[Z"]
def wsX10_rate_r2 : List Cond := [Cond.methodLink RX10 128 yX10_spot, Cond.instanceMethod yX10_spot, Cond.selects RX10 yX10_spot yX10_spot, Cond.code yX10_spot cX10_spot 3 (some .int), Cond.methodLink RX10 132 yX10_isLeftOut, Cond.instanceMethod yX10_isLeftOut, Cond.selects RX10 yX10_isLeftOut yX10_isLeftOut, Cond.code yX10_isLeftOut cX10_isLeftOut 5 (some .boolean), Cond.fieldLink RX10 16 "CreepBoardModel" "kind" "[I", Cond.methodLink RX10 149 yX10_clear, Cond.instanceMethod yX10_clear, Cond.selects RX10 yX10_clear yX10_clear, Cond.code yX10_clear cX10_clear 6 (some .long), Cond.fieldLink RX10 29 "CreepBoardModel" "since" "[I", Cond.fieldLink RX10 26 "CreepBoardModel" "offset" "[I", Cond.methodLink RX10 136 yX10_withoutSteps, Cond.instanceMethod yX10_withoutSteps, Cond.selects RX10 yX10_withoutSteps yX10_withoutSteps, Cond.code yX10_withoutSteps cX10_withoutSteps 7 (some .long), Cond.fieldLink RX10 39 "CreepBoardModel" "reading" "[I", Cond.fieldLink RX10 32 "CreepBoardModel" "steps" "[I", Cond.fieldLink RX10 42 "CreepBoardModel" "stepAt" "[I", Cond.fieldLink RX10 45 "CreepBoardModel" "step" "[I", Cond.methodLink RX10 123 yX10_hasAntenna]
def wsX10_rate_r3 : List Cond := [Cond.instanceMethod yX10_hasAntenna, Cond.selects RX10 yX10_hasAntenna yX10_hasAntenna, Cond.code yX10_hasAntenna cX10_hasAntenna 2 (some .boolean), Cond.methodLink RX10 140 yX10_meanOf, Cond.instanceMethod yX10_meanOf, Cond.selects RX10 yX10_meanOf yX10_meanOf, Cond.code yX10_meanOf cX10_meanOf 8 (some .long), Cond.methodLink RX10 160 yX10_lowest, Cond.instanceMethod yX10_lowest, Cond.selects RX10 yX10_lowest yX10_lowest, Cond.code yX10_lowest cX10_lowest 8 (some .long), Cond.methodLink RX10 156 yX10_divisor, Cond.instanceMethod yX10_divisor, Cond.selects RX10 yX10_divisor yX10_divisor, Cond.code yX10_divisor cX10_divisor 11 (some .long)]
def wsX10_rate : List Cond := .code yX10_rate cX10_rate 17 (some .long) :: ((wsX10_rate_r1 ++ (wsX10_rate_r2 ++ wsX10_rate_r3)) ++ wsX100)
def wsX10_jump_r1 : List Cond := [Cond.methodLink RX10 116 yX10_isMark, Cond.instanceMethod yX10_isMark, Cond.selects RX10 yX10_isMark yX10_isMark, Cond.initialized RX10, Cond.code yX10_isMark cX10_isMark 2 (some .boolean), Cond.fieldLink RX10 13 "CreepBoardModel" "marks" "I", Cond.methodLink RX10 112 yX10_in, Cond.instanceMethod yX10_in, Cond.selects RX10 yX10_in yX10_in, Cond.code yX10_in cX10_in 4 (some .boolean), Cond.methodLink RX10 143 yX10_isSide, Cond.instanceMethod yX10_isSide, Cond.selects RX10 yX10_isSide yX10_isSide, Cond.code yX10_isSide cX10_isSide 2 (some .boolean), Cond.methodLink RX10 152 yX10_manyOf, Cond.instanceMethod yX10_manyOf, Cond.selects RX10 yX10_manyOf yX10_manyOf, Cond.code yX10_manyOf cX10_manyOf 4 (some .int), Cond.methodLink RX10 146 yX10_isCleared, Cond.instanceMethod yX10_isCleared, Cond.selects RX10 yX10_isCleared yX10_isCleared, Cond.code yX10_isCleared cX10_isCleared 3 (some .boolean), Cond.fieldLink RX10 35 "CreepBoardModel" "isRead" "[Z", Cond.methodLink RX10 128 yX10_spot]
def wsX10_jump_r2 : List Cond := [Cond.instanceMethod yX10_spot, Cond.selects RX10 yX10_spot yX10_spot, Cond.code yX10_spot cX10_spot 3 (some .int), Cond.methodLink RX10 132 yX10_isLeftOut, Cond.instanceMethod yX10_isLeftOut, Cond.selects RX10 yX10_isLeftOut yX10_isLeftOut, Cond.code yX10_isLeftOut cX10_isLeftOut 5 (some .boolean), Cond.fieldLink RX10 16 "CreepBoardModel" "kind" "[I", Cond.methodLink RX10 149 yX10_clear, Cond.instanceMethod yX10_clear, Cond.selects RX10 yX10_clear yX10_clear, Cond.code yX10_clear cX10_clear 6 (some .long), Cond.fieldLink RX10 29 "CreepBoardModel" "since" "[I", Cond.fieldLink RX10 26 "CreepBoardModel" "offset" "[I", Cond.methodLink RX10 136 yX10_withoutSteps, Cond.instanceMethod yX10_withoutSteps, Cond.selects RX10 yX10_withoutSteps yX10_withoutSteps, Cond.code yX10_withoutSteps cX10_withoutSteps 7 (some .long), Cond.fieldLink RX10 39 "CreepBoardModel" "reading" "[I", Cond.fieldLink RX10 32 "CreepBoardModel" "steps" "[I", Cond.fieldLink RX10 42 "CreepBoardModel" "stepAt" "[I", Cond.fieldLink RX10 45 "CreepBoardModel" "step" "[I", Cond.methodLink RX10 123 yX10_hasAntenna, Cond.instanceMethod yX10_hasAntenna]
def wsX10_jump_r3 : List Cond := [Cond.selects RX10 yX10_hasAntenna yX10_hasAntenna, Cond.code yX10_hasAntenna cX10_hasAntenna 2 (some .boolean), Cond.methodLink RX10 140 yX10_meanOf, Cond.instanceMethod yX10_meanOf, Cond.selects RX10 yX10_meanOf yX10_meanOf, Cond.code yX10_meanOf cX10_meanOf 8 (some .long)]
def wsX10_jump : List Cond := .code yX10_jump cX10_jump 19 (some .int) :: ((wsX10_jump_r1 ++ (wsX10_jump_r2 ++ wsX10_jump_r3)) ++ wsX100)
def wsX10_firstOf_r1 : List Cond := [Cond.methodLink RX10 146 yX10_isCleared, Cond.instanceMethod yX10_isCleared, Cond.selects RX10 yX10_isCleared yX10_isCleared, Cond.initialized RX10, Cond.code yX10_isCleared cX10_isCleared 3 (some .boolean), Cond.fieldLink RX10 35 "CreepBoardModel" "isRead" "[Z", Cond.methodLink RX10 128 yX10_spot, Cond.instanceMethod yX10_spot, Cond.selects RX10 yX10_spot yX10_spot, Cond.code yX10_spot cX10_spot 3 (some .int), Cond.methodLink RX10 132 yX10_isLeftOut, Cond.instanceMethod yX10_isLeftOut, Cond.selects RX10 yX10_isLeftOut yX10_isLeftOut, Cond.code yX10_isLeftOut cX10_isLeftOut 5 (some .boolean), Cond.fieldLink RX10 16 "CreepBoardModel" "kind" "[I", Cond.methodLink RX10 149 yX10_clear, Cond.instanceMethod yX10_clear, Cond.selects RX10 yX10_clear yX10_clear, Cond.code yX10_clear cX10_clear 6 (some .long), Cond.fieldLink RX10 29 "CreepBoardModel" "since" "[I", Cond.fieldLink RX10 26 "CreepBoardModel" "offset" "[I", Cond.methodLink RX10 136 yX10_withoutSteps, Cond.instanceMethod yX10_withoutSteps, Cond.selects RX10 yX10_withoutSteps yX10_withoutSteps]
def wsX10_firstOf_r2 : List Cond := [Cond.code yX10_withoutSteps cX10_withoutSteps 7 (some .long), Cond.fieldLink RX10 39 "CreepBoardModel" "reading" "[I", Cond.fieldLink RX10 32 "CreepBoardModel" "steps" "[I", Cond.fieldLink RX10 42 "CreepBoardModel" "stepAt" "[I", Cond.fieldLink RX10 45 "CreepBoardModel" "step" "[I", Cond.methodLink RX10 123 yX10_hasAntenna, Cond.instanceMethod yX10_hasAntenna, Cond.selects RX10 yX10_hasAntenna yX10_hasAntenna, Cond.code yX10_hasAntenna cX10_hasAntenna 2 (some .boolean), Cond.methodLink RX10 140 yX10_meanOf, Cond.instanceMethod yX10_meanOf, Cond.selects RX10 yX10_meanOf yX10_meanOf, Cond.code yX10_meanOf cX10_meanOf 8 (some .long)]
def wsX10_firstOf : List Cond := .code yX10_firstOf cX10_firstOf 4 (some .long) :: ((wsX10_firstOf_r1 ++ wsX10_firstOf_r2) ++ wsX100)
def wsX10_common_r1 : List Cond := [Cond.fieldLink RX10 13 "CreepBoardModel" "marks" "I", Cond.fieldLink RX10 7 "CreepBoardModel" "thrown" "I", Cond.methodLink RX10 120 yX10_isEpoch, Cond.instanceMethod yX10_isEpoch, Cond.selects RX10 yX10_isEpoch yX10_isEpoch, Cond.initialized RX10, Cond.code yX10_isEpoch cX10_isEpoch 2 (some .boolean), Cond.methodLink RX10 112 yX10_in, Cond.instanceMethod yX10_in, Cond.selects RX10 yX10_in yX10_in, Cond.code yX10_in cX10_in 4 (some .boolean), Cond.methodLink RX10 143 yX10_isSide, Cond.instanceMethod yX10_isSide, Cond.selects RX10 yX10_isSide yX10_isSide, Cond.code yX10_isSide cX10_isSide 2 (some .boolean), Cond.methodLink RX10 146 yX10_isCleared, Cond.instanceMethod yX10_isCleared, Cond.selects RX10 yX10_isCleared yX10_isCleared, Cond.code yX10_isCleared cX10_isCleared 3 (some .boolean), Cond.fieldLink RX10 35 "CreepBoardModel" "isRead" "[Z", Cond.methodLink RX10 128 yX10_spot, Cond.instanceMethod yX10_spot, Cond.selects RX10 yX10_spot yX10_spot, Cond.code yX10_spot cX10_spot 3 (some .int)]
def wsX10_common_r2 : List Cond := [Cond.methodLink RX10 132 yX10_isLeftOut, Cond.instanceMethod yX10_isLeftOut, Cond.selects RX10 yX10_isLeftOut yX10_isLeftOut, Cond.code yX10_isLeftOut cX10_isLeftOut 5 (some .boolean), Cond.fieldLink RX10 16 "CreepBoardModel" "kind" "[I", Cond.methodLink RX10 149 yX10_clear, Cond.instanceMethod yX10_clear, Cond.selects RX10 yX10_clear yX10_clear, Cond.code yX10_clear cX10_clear 6 (some .long), Cond.fieldLink RX10 29 "CreepBoardModel" "since" "[I", Cond.fieldLink RX10 26 "CreepBoardModel" "offset" "[I", Cond.methodLink RX10 136 yX10_withoutSteps, Cond.instanceMethod yX10_withoutSteps, Cond.selects RX10 yX10_withoutSteps yX10_withoutSteps, Cond.code yX10_withoutSteps cX10_withoutSteps 7 (some .long), Cond.fieldLink RX10 39 "CreepBoardModel" "reading" "[I", Cond.fieldLink RX10 32 "CreepBoardModel" "steps" "[I", Cond.fieldLink RX10 42 "CreepBoardModel" "stepAt" "[I", Cond.fieldLink RX10 45 "CreepBoardModel" "step" "[I", Cond.methodLink RX10 123 yX10_hasAntenna, Cond.instanceMethod yX10_hasAntenna, Cond.selects RX10 yX10_hasAntenna yX10_hasAntenna, Cond.code yX10_hasAntenna cX10_hasAntenna 2 (some .boolean), Cond.methodLink RX10 140 yX10_meanOf]
def wsX10_common_r3 : List Cond := [Cond.instanceMethod yX10_meanOf, Cond.selects RX10 yX10_meanOf yX10_meanOf, Cond.code yX10_meanOf cX10_meanOf 8 (some .long), Cond.methodLink RX10 164 yX10_firstOf, Cond.instanceMethod yX10_firstOf, Cond.selects RX10 yX10_firstOf yX10_firstOf, Cond.code yX10_firstOf cX10_firstOf 4 (some .long)]
def wsX10_common : List Cond := .code yX10_common cX10_common 7 (some .long) :: ((wsX10_common_r1 ++ (wsX10_common_r2 ++ wsX10_common_r3)) ++ wsX100)
def wsX10_velocity : List Cond := .code yX10_velocity cX10_velocity 5 (some .int) :: ([.fieldLink RX10 48 "CreepBoardModel" "east" "[I", .fieldLink RX10 51 "CreepBoardModel" "north" "[I", .methodLink RX10 116 yX10_isMark, .instanceMethod yX10_isMark, .selects RX10 yX10_isMark yX10_isMark, .initialized RX10, .code yX10_isMark cX10_isMark 2 (some .boolean), .fieldLink RX10 13 "CreepBoardModel" "marks" "I", .methodLink RX10 112 yX10_in, .instanceMethod yX10_in, .selects RX10 yX10_in yX10_in, .code yX10_in cX10_in 4 (some .boolean)] ++ wsX100)
def wsX10_moves : List Cond := .code yX10_moves cX10_moves 3 (some .long) :: ([.fieldLink RX10 7 "CreepBoardModel" "thrown" "I", .fieldLink RX10 48 "CreepBoardModel" "east" "[I", .fieldLink RX10 51 "CreepBoardModel" "north" "[I", .methodLink RX10 116 yX10_isMark, .instanceMethod yX10_isMark, .selects RX10 yX10_isMark yX10_isMark, .initialized RX10, .code yX10_isMark cX10_isMark 2 (some .boolean), .fieldLink RX10 13 "CreepBoardModel" "marks" "I", .methodLink RX10 112 yX10_in, .instanceMethod yX10_in, .selects RX10 yX10_in yX10_in, .code yX10_in cX10_in 4 (some .boolean), .methodLink RX10 143 yX10_isSide, .instanceMethod yX10_isSide, .selects RX10 yX10_isSide yX10_isSide, .code yX10_isSide cX10_isSide 2 (some .boolean)] ++ wsX100)
def wsX10_frame : List Cond := .code yX10_frame cX10_frame 5 (some .int) :: ([.fieldLink RX10 13 "CreepBoardModel" "marks" "I", .fieldLink RX10 48 "CreepBoardModel" "east" "[I", .fieldLink RX10 23 "CreepBoardModel" "y" "[I", .constant RX10 126 (-100000), .constant RX10 127 (100000), .fieldLink RX10 51 "CreepBoardModel" "north" "[I", .fieldLink RX10 20 "CreepBoardModel" "x" "[I", .methodLink RX10 112 yX10_in, .instanceMethod yX10_in, .selects RX10 yX10_in yX10_in, .initialized RX10, .code yX10_in cX10_in 4 (some .boolean)] ++ wsX100)
def wsX10_strain : List Cond := .code yX10_strain cX10_strain 30 (some .long) :: ([.fieldLink RX10 7 "CreepBoardModel" "thrown" "I", .fieldLink RX10 20 "CreepBoardModel" "x" "[I", .fieldLink RX10 23 "CreepBoardModel" "y" "[I", .fieldLink RX10 48 "CreepBoardModel" "east" "[I", .fieldLink RX10 51 "CreepBoardModel" "north" "[I", .methodLink RX10 116 yX10_isMark, .instanceMethod yX10_isMark, .selects RX10 yX10_isMark yX10_isMark, .initialized RX10, .code yX10_isMark cX10_isMark 2 (some .boolean), .fieldLink RX10 13 "CreepBoardModel" "marks" "I", .methodLink RX10 112 yX10_in, .instanceMethod yX10_in, .selects RX10 yX10_in yX10_in, .code yX10_in cX10_in 4 (some .boolean), .methodLink RX10 160 yX10_lowest, .instanceMethod yX10_lowest, .selects RX10 yX10_lowest yX10_lowest, .code yX10_lowest cX10_lowest 8 (some .long), .methodLink RX10 156 yX10_divisor, .instanceMethod yX10_divisor, .selects RX10 yX10_divisor yX10_divisor, .code yX10_divisor cX10_divisor 11 (some .long)] ++ wsX100)
def wsX10_isBlock : List Cond := .code yX10_isBlock cX10_isBlock 18 (some .boolean) :: ([.fieldLink RX10 13 "CreepBoardModel" "marks" "I", .fieldLink RX10 20 "CreepBoardModel" "x" "[I", .fieldLink RX10 23 "CreepBoardModel" "y" "[I", .fieldLink RX10 48 "CreepBoardModel" "east" "[I", .fieldLink RX10 51 "CreepBoardModel" "north" "[I"] ++ wsX100)
def wsX10_block : List Cond := .code yX10_block cX10_block 2 (some .int) :: ([.fieldLink RX10 13 "CreepBoardModel" "marks" "I", .methodLink RX10 112 yX10_in, .instanceMethod yX10_in, .selects RX10 yX10_in yX10_in, .initialized RX10, .code yX10_in cX10_in 4 (some .boolean), .methodLink RX10 168 yX10_isBlock, .instanceMethod yX10_isBlock, .selects RX10 yX10_isBlock yX10_isBlock, .code yX10_isBlock cX10_isBlock 18 (some .boolean), .fieldLink RX10 20 "CreepBoardModel" "x" "[I", .fieldLink RX10 23 "CreepBoardModel" "y" "[I", .fieldLink RX10 48 "CreepBoardModel" "east" "[I", .fieldLink RX10 51 "CreepBoardModel" "north" "[I"] ++ wsX100)
def wsX10_findBlocks : List Cond := .code yX10_findBlocks cX10_findBlocks 6 none :: ([.fieldLink RX10 13 "CreepBoardModel" "marks" "I", .fieldLink RX10 54 "CreepBoardModel" "fewest" "[I", .fieldLink RX10 60 "CreepBoardModel" "isOne" "[Z", .fieldLink RX10 57 "CreepBoardModel" "ofMark" "[I", .methodLink RX10 168 yX10_isBlock, .instanceMethod yX10_isBlock, .selects RX10 yX10_isBlock yX10_isBlock, .initialized RX10, .code yX10_isBlock cX10_isBlock 18 (some .boolean), .fieldLink RX10 20 "CreepBoardModel" "x" "[I", .fieldLink RX10 23 "CreepBoardModel" "y" "[I", .fieldLink RX10 48 "CreepBoardModel" "east" "[I", .fieldLink RX10 51 "CreepBoardModel" "north" "[I"] ++ wsX100)
def wsX10_blocks : List Cond := .code yX10_blocks cX10_blocks 1 (some .int) :: ([.fieldLink RX10 13 "CreepBoardModel" "marks" "I", .fieldLink RX10 54 "CreepBoardModel" "fewest" "[I", .methodLink RX10 171 yX10_findBlocks, .instanceMethod yX10_findBlocks, .selects RX10 yX10_findBlocks yX10_findBlocks, .initialized RX10, .code yX10_findBlocks cX10_findBlocks 6 none, .fieldLink RX10 60 "CreepBoardModel" "isOne" "[Z", .fieldLink RX10 57 "CreepBoardModel" "ofMark" "[I", .methodLink RX10 168 yX10_isBlock, .instanceMethod yX10_isBlock, .selects RX10 yX10_isBlock yX10_isBlock, .code yX10_isBlock cX10_isBlock 18 (some .boolean), .fieldLink RX10 20 "CreepBoardModel" "x" "[I", .fieldLink RX10 23 "CreepBoardModel" "y" "[I", .fieldLink RX10 48 "CreepBoardModel" "east" "[I", .fieldLink RX10 51 "CreepBoardModel" "north" "[I"] ++ wsX100)
def wsX10_of_r1 : List Cond := [Cond.fieldLink RX10 57 "CreepBoardModel" "ofMark" "[I", Cond.methodLink RX10 116 yX10_isMark, Cond.instanceMethod yX10_isMark, Cond.selects RX10 yX10_isMark yX10_isMark, Cond.initialized RX10, Cond.code yX10_isMark cX10_isMark 2 (some .boolean), Cond.fieldLink RX10 13 "CreepBoardModel" "marks" "I", Cond.methodLink RX10 112 yX10_in, Cond.instanceMethod yX10_in, Cond.selects RX10 yX10_in yX10_in, Cond.code yX10_in cX10_in 4 (some .boolean), Cond.methodLink RX10 171 yX10_findBlocks, Cond.instanceMethod yX10_findBlocks, Cond.selects RX10 yX10_findBlocks yX10_findBlocks, Cond.code yX10_findBlocks cX10_findBlocks 6 none, Cond.fieldLink RX10 54 "CreepBoardModel" "fewest" "[I", Cond.fieldLink RX10 60 "CreepBoardModel" "isOne" "[Z", Cond.methodLink RX10 168 yX10_isBlock, Cond.instanceMethod yX10_isBlock, Cond.selects RX10 yX10_isBlock yX10_isBlock, Cond.code yX10_isBlock cX10_isBlock 18 (some .boolean), Cond.fieldLink RX10 20 "CreepBoardModel" "x" "[I", Cond.fieldLink RX10 23 "CreepBoardModel" "y" "[I", Cond.fieldLink RX10 48 "CreepBoardModel" "east" "[I"]
def wsX10_of_r2 : List Cond := [Cond.fieldLink RX10 51 "CreepBoardModel" "north" "[I"]
def wsX10_of : List Cond := .code yX10_of cX10_of 2 (some .int) :: ((wsX10_of_r1 ++ wsX10_of_r2) ++ wsX100)
def wsX10_green : List Cond := .code yX10_green cX10_green 5 (some .int) :: ([.fieldLink RX10 66 "CreepBoardModel" "green" "[I", .methodLink RX10 116 yX10_isMark, .instanceMethod yX10_isMark, .selects RX10 yX10_isMark yX10_isMark, .initialized RX10, .code yX10_isMark cX10_isMark 2 (some .boolean), .fieldLink RX10 13 "CreepBoardModel" "marks" "I", .methodLink RX10 112 yX10_in, .instanceMethod yX10_in, .selects RX10 yX10_in yX10_in, .code yX10_in cX10_in 4 (some .boolean)] ++ wsX100)
def wsX10_tolerance : List Cond := .code yX10_tolerance cX10_tolerance 3 (some .int) :: ([.fieldLink RX10 63 "CreepBoardModel" "tolerance" "I", .methodLink RX10 112 yX10_in, .instanceMethod yX10_in, .selects RX10 yX10_in yX10_in, .initialized RX10, .code yX10_in cX10_in 4 (some .boolean)] ++ wsX100)
def wsX10_doFit : List Cond := .code yX10_doFit cX10_doFit 6 (some .boolean) :: ([.fieldLink RX10 13 "CreepBoardModel" "marks" "I", .fieldLink RX10 66 "CreepBoardModel" "green" "[I", .fieldLink RX10 48 "CreepBoardModel" "east" "[I", .fieldLink RX10 63 "CreepBoardModel" "tolerance" "I", .methodLink RX10 112 yX10_in, .instanceMethod yX10_in, .selects RX10 yX10_in yX10_in, .initialized RX10, .code yX10_in cX10_in 4 (some .boolean)] ++ wsX100)
def wsX10_findSlips : List Cond := .code yX10_findSlips cX10_findSlips 4 none :: ([.fieldLink RX10 69 "CreepBoardModel" "fitting" "I", .fieldLink RX10 72 "CreepBoardModel" "leastSlip" "[I", .fieldLink RX10 75 "CreepBoardModel" "mostSlip" "[I", .methodLink RX10 174 yX10_doFit, .instanceMethod yX10_doFit, .selects RX10 yX10_doFit yX10_doFit, .initialized RX10, .code yX10_doFit cX10_doFit 6 (some .boolean), .fieldLink RX10 13 "CreepBoardModel" "marks" "I", .fieldLink RX10 66 "CreepBoardModel" "green" "[I", .fieldLink RX10 48 "CreepBoardModel" "east" "[I", .fieldLink RX10 63 "CreepBoardModel" "tolerance" "I", .methodLink RX10 112 yX10_in, .instanceMethod yX10_in, .selects RX10 yX10_in yX10_in, .code yX10_in cX10_in 4 (some .boolean)] ++ wsX100)
def wsX10_fits : List Cond := .code yX10_fits cX10_fits 1 (some .int) :: ([.fieldLink RX10 69 "CreepBoardModel" "fitting" "I", .methodLink RX10 177 yX10_findSlips, .instanceMethod yX10_findSlips, .selects RX10 yX10_findSlips yX10_findSlips, .initialized RX10, .code yX10_findSlips cX10_findSlips 4 none, .fieldLink RX10 72 "CreepBoardModel" "leastSlip" "[I", .fieldLink RX10 75 "CreepBoardModel" "mostSlip" "[I", .methodLink RX10 174 yX10_doFit, .instanceMethod yX10_doFit, .selects RX10 yX10_doFit yX10_doFit, .code yX10_doFit cX10_doFit 6 (some .boolean), .fieldLink RX10 13 "CreepBoardModel" "marks" "I", .fieldLink RX10 66 "CreepBoardModel" "green" "[I", .fieldLink RX10 48 "CreepBoardModel" "east" "[I", .fieldLink RX10 63 "CreepBoardModel" "tolerance" "I", .methodLink RX10 112 yX10_in, .instanceMethod yX10_in, .selects RX10 yX10_in yX10_in, .code yX10_in cX10_in 4 (some .boolean)] ++ wsX100)
def wsX10_slip : List Cond := .code yX10_slip cX10_slip 3 (some .int) :: ([.fieldLink RX10 69 "CreepBoardModel" "fitting" "I", .fieldLink RX10 75 "CreepBoardModel" "mostSlip" "[I", .fieldLink RX10 72 "CreepBoardModel" "leastSlip" "[I", .methodLink RX10 112 yX10_in, .instanceMethod yX10_in, .selects RX10 yX10_in yX10_in, .initialized RX10, .code yX10_in cX10_in 4 (some .boolean), .methodLink RX10 177 yX10_findSlips, .instanceMethod yX10_findSlips, .selects RX10 yX10_findSlips yX10_findSlips, .code yX10_findSlips cX10_findSlips 4 none, .methodLink RX10 174 yX10_doFit, .instanceMethod yX10_doFit, .selects RX10 yX10_doFit yX10_doFit, .code yX10_doFit cX10_doFit 6 (some .boolean), .fieldLink RX10 13 "CreepBoardModel" "marks" "I", .fieldLink RX10 66 "CreepBoardModel" "green" "[I", .fieldLink RX10 48 "CreepBoardModel" "east" "[I", .fieldLink RX10 63 "CreepBoardModel" "tolerance" "I"] ++ wsX100)
def wsX10_locked : List Cond := .code yX10_locked cX10_locked 3 (some .int) :: ([.fieldLink RX10 69 "CreepBoardModel" "fitting" "I", .fieldLink RX10 75 "CreepBoardModel" "mostSlip" "[I", .methodLink RX10 177 yX10_findSlips, .instanceMethod yX10_findSlips, .selects RX10 yX10_findSlips yX10_findSlips, .initialized RX10, .code yX10_findSlips cX10_findSlips 4 none, .fieldLink RX10 72 "CreepBoardModel" "leastSlip" "[I", .methodLink RX10 174 yX10_doFit, .instanceMethod yX10_doFit, .selects RX10 yX10_doFit yX10_doFit, .code yX10_doFit cX10_doFit 6 (some .boolean), .fieldLink RX10 13 "CreepBoardModel" "marks" "I", .fieldLink RX10 66 "CreepBoardModel" "green" "[I", .fieldLink RX10 48 "CreepBoardModel" "east" "[I", .fieldLink RX10 63 "CreepBoardModel" "tolerance" "I", .methodLink RX10 112 yX10_in, .instanceMethod yX10_in, .selects RX10 yX10_in yX10_in, .code yX10_in cX10_in 4 (some .boolean)] ++ wsX100)
def wsX10_line : List Cond := .code yX10_line cX10_line 4 (some .int) :: ([.fieldLink RX10 78 "CreepBoardModel" "lines" "I", .fieldLink RX10 81 "CreepBoardModel" "from" "[I", .fieldLink RX10 84 "CreepBoardModel" "to" "[I", .fieldLink RX10 87 "CreepBoardModel" "rise" "[I", .methodLink RX10 116 yX10_isMark, .instanceMethod yX10_isMark, .selects RX10 yX10_isMark yX10_isMark, .initialized RX10, .code yX10_isMark cX10_isMark 2 (some .boolean), .fieldLink RX10 13 "CreepBoardModel" "marks" "I", .methodLink RX10 112 yX10_in, .instanceMethod yX10_in, .selects RX10 yX10_in yX10_in, .code yX10_in cX10_in 4 (some .boolean)] ++ wsX100)
def wsX10_unline : List Cond := .code yX10_unline cX10_unline 1 (some .int) :: ([.fieldLink RX10 78 "CreepBoardModel" "lines" "I"] ++ wsX100)
def wsX10_agree : List Cond := .code yX10_agree cX10_agree 8 (some .boolean) :: ([.fieldLink RX10 13 "CreepBoardModel" "marks" "I", .fieldLink RX10 90 "CreepBoardModel" "group" "[I", .fieldLink RX10 93 "CreepBoardModel" "above" "[J", .fieldLink RX10 78 "CreepBoardModel" "lines" "I", .fieldLink RX10 81 "CreepBoardModel" "from" "[I", .fieldLink RX10 87 "CreepBoardModel" "rise" "[I", .fieldLink RX10 84 "CreepBoardModel" "to" "[I"] ++ wsX100)
def wsX10_ones : List Cond := .code yX10_ones cX10_ones 4 (some .int) :: ([])
def wsX10_findWrong : List Cond := .code yX10_findWrong cX10_findWrong 4 (some .int) :: ([.fieldLink RX10 78 "CreepBoardModel" "lines" "I", .methodLink RX10 180 yX10_ones, .instanceMethod yX10_ones, .selects RX10 yX10_ones yX10_ones, .initialized RX10, .code yX10_ones cX10_ones 4 (some .int), .methodLink RX10 183 yX10_agree, .instanceMethod yX10_agree, .selects RX10 yX10_agree yX10_agree, .code yX10_agree cX10_agree 8 (some .boolean), .fieldLink RX10 13 "CreepBoardModel" "marks" "I", .fieldLink RX10 90 "CreepBoardModel" "group" "[I", .fieldLink RX10 93 "CreepBoardModel" "above" "[J", .fieldLink RX10 81 "CreepBoardModel" "from" "[I", .fieldLink RX10 87 "CreepBoardModel" "rise" "[I", .fieldLink RX10 84 "CreepBoardModel" "to" "[I"] ++ wsX100)
def wsX10_wrong : List Cond := .code yX10_wrong cX10_wrong 2 (some .int) :: ([.methodLink RX10 186 yX10_findWrong, .instanceMethod yX10_findWrong, .selects RX10 yX10_findWrong yX10_findWrong, .initialized RX10, .code yX10_findWrong cX10_findWrong 4 (some .int), .fieldLink RX10 78 "CreepBoardModel" "lines" "I", .methodLink RX10 180 yX10_ones, .instanceMethod yX10_ones, .selects RX10 yX10_ones yX10_ones, .code yX10_ones cX10_ones 4 (some .int), .methodLink RX10 183 yX10_agree, .instanceMethod yX10_agree, .selects RX10 yX10_agree yX10_agree, .code yX10_agree cX10_agree 8 (some .boolean), .fieldLink RX10 13 "CreepBoardModel" "marks" "I", .fieldLink RX10 90 "CreepBoardModel" "group" "[I", .fieldLink RX10 93 "CreepBoardModel" "above" "[J", .fieldLink RX10 81 "CreepBoardModel" "from" "[I", .fieldLink RX10 87 "CreepBoardModel" "rise" "[I", .fieldLink RX10 84 "CreepBoardModel" "to" "[I"] ++ wsX100)
def wsX10_height_r1 : List Cond := [Cond.fieldLink RX10 7 "CreepBoardModel" "thrown" "I", Cond.fieldLink RX10 90 "CreepBoardModel" "group" "[I", Cond.fieldLink RX10 93 "CreepBoardModel" "above" "[J", Cond.methodLink RX10 116 yX10_isMark, Cond.instanceMethod yX10_isMark, Cond.selects RX10 yX10_isMark yX10_isMark, Cond.initialized RX10, Cond.code yX10_isMark cX10_isMark 2 (some .boolean), Cond.fieldLink RX10 13 "CreepBoardModel" "marks" "I", Cond.methodLink RX10 112 yX10_in, Cond.instanceMethod yX10_in, Cond.selects RX10 yX10_in yX10_in, Cond.code yX10_in cX10_in 4 (some .boolean), Cond.methodLink RX10 186 yX10_findWrong, Cond.instanceMethod yX10_findWrong, Cond.selects RX10 yX10_findWrong yX10_findWrong, Cond.code yX10_findWrong cX10_findWrong 4 (some .int), Cond.fieldLink RX10 78 "CreepBoardModel" "lines" "I", Cond.methodLink RX10 180 yX10_ones, Cond.instanceMethod yX10_ones, Cond.selects RX10 yX10_ones yX10_ones, Cond.code yX10_ones cX10_ones 4 (some .int), Cond.methodLink RX10 183 yX10_agree, Cond.instanceMethod yX10_agree]
def wsX10_height_r2 : List Cond := [Cond.selects RX10 yX10_agree yX10_agree, Cond.code yX10_agree cX10_agree 8 (some .boolean), Cond.fieldLink RX10 81 "CreepBoardModel" "from" "[I", Cond.fieldLink RX10 87 "CreepBoardModel" "rise" "[I", Cond.fieldLink RX10 84 "CreepBoardModel" "to" "[I"]
def wsX10_height : List Cond := .code yX10_height cX10_height 3 (some .long) :: ((wsX10_height_r1 ++ wsX10_height_r2) ++ wsX100)
def wsX10_readingsOf : List Cond := .code yX10_readingsOf cX10_readingsOf 4 (some .int) :: ([.fieldLink RX10 35 "CreepBoardModel" "isRead" "[Z", .methodLink RX10 128 yX10_spot, .instanceMethod yX10_spot, .selects RX10 yX10_spot yX10_spot, .initialized RX10, .code yX10_spot cX10_spot 3 (some .int)] ++ wsX100)
def wsX10_count : List Cond := .code yX10_count cX10_count 4 (some .int) :: ([.fieldLink RX10 13 "CreepBoardModel" "marks" "I", .fieldLink RX10 32 "CreepBoardModel" "steps" "[I", .fieldLink RX10 78 "CreepBoardModel" "lines" "I", .fieldLink RX10 63 "CreepBoardModel" "tolerance" "I", .methodLink RX10 190 yX10_readingsOf, .instanceMethod yX10_readingsOf, .selects RX10 yX10_readingsOf yX10_readingsOf, .initialized RX10, .code yX10_readingsOf cX10_readingsOf 4 (some .int), .fieldLink RX10 35 "CreepBoardModel" "isRead" "[Z", .methodLink RX10 128 yX10_spot, .instanceMethod yX10_spot, .selects RX10 yX10_spot yX10_spot, .code yX10_spot cX10_spot 3 (some .int)] ++ wsX100)
def wsX10_isShelf : List Cond := .code yX10_isShelf cX10_isShelf 2 (some .boolean) :: ([.methodLink RX10 112 yX10_in, .instanceMethod yX10_in, .selects RX10 yX10_in yX10_in, .initialized RX10, .code yX10_in cX10_in 4 (some .boolean)])
def wsX10_wipe : List Cond := .code yX10_wipe cX10_wipe 3 none :: ([.fieldLink RX10 106 "CreepBoardModel" "item" "[J"] ++ wsX100)
def wsX10_keep_r1 : List Cond := [Cond.fieldLink RX10 97 "CreepBoardModel" "held" "[I", Cond.fieldLink RX10 100 "CreepBoardModel" "heldMark" "[I", Cond.fieldLink RX10 103 "CreepBoardModel" "size" "[I", Cond.fieldLink RX10 106 "CreepBoardModel" "item" "[J", Cond.methodLink RX10 193 yX10_isShelf, Cond.instanceMethod yX10_isShelf, Cond.selects RX10 yX10_isShelf yX10_isShelf, Cond.initialized RX10, Cond.code yX10_isShelf cX10_isShelf 2 (some .boolean), Cond.methodLink RX10 112 yX10_in, Cond.instanceMethod yX10_in, Cond.selects RX10 yX10_in yX10_in, Cond.code yX10_in cX10_in 4 (some .boolean), Cond.methodLink RX10 116 yX10_isMark, Cond.instanceMethod yX10_isMark, Cond.selects RX10 yX10_isMark yX10_isMark, Cond.code yX10_isMark cX10_isMark 2 (some .boolean), Cond.fieldLink RX10 13 "CreepBoardModel" "marks" "I", Cond.methodLink RX10 196 yX10_wipe, Cond.instanceMethod yX10_wipe, Cond.selects RX10 yX10_wipe yX10_wipe, Cond.code yX10_wipe cX10_wipe 3 none, Cond.methodLink RX10 146 yX10_isCleared, Cond.instanceMethod yX10_isCleared]
def wsX10_keep_r2 : List Cond := [Cond.selects RX10 yX10_isCleared yX10_isCleared, Cond.code yX10_isCleared cX10_isCleared 3 (some .boolean), Cond.fieldLink RX10 35 "CreepBoardModel" "isRead" "[Z", Cond.methodLink RX10 128 yX10_spot, Cond.instanceMethod yX10_spot, Cond.selects RX10 yX10_spot yX10_spot, Cond.code yX10_spot cX10_spot 3 (some .int), Cond.methodLink RX10 132 yX10_isLeftOut, Cond.instanceMethod yX10_isLeftOut, Cond.selects RX10 yX10_isLeftOut yX10_isLeftOut, Cond.code yX10_isLeftOut cX10_isLeftOut 5 (some .boolean), Cond.fieldLink RX10 16 "CreepBoardModel" "kind" "[I", Cond.methodLink RX10 149 yX10_clear, Cond.instanceMethod yX10_clear, Cond.selects RX10 yX10_clear yX10_clear, Cond.code yX10_clear cX10_clear 6 (some .long), Cond.fieldLink RX10 29 "CreepBoardModel" "since" "[I", Cond.fieldLink RX10 26 "CreepBoardModel" "offset" "[I", Cond.methodLink RX10 136 yX10_withoutSteps, Cond.instanceMethod yX10_withoutSteps, Cond.selects RX10 yX10_withoutSteps yX10_withoutSteps, Cond.code yX10_withoutSteps cX10_withoutSteps 7 (some .long), Cond.fieldLink RX10 39 "CreepBoardModel" "reading" "[I", Cond.fieldLink RX10 32 "CreepBoardModel" "steps" "[I"]
def wsX10_keep_r3 : List Cond := [Cond.fieldLink RX10 42 "CreepBoardModel" "stepAt" "[I", Cond.fieldLink RX10 45 "CreepBoardModel" "step" "[I", Cond.methodLink RX10 123 yX10_hasAntenna, Cond.instanceMethod yX10_hasAntenna, Cond.selects RX10 yX10_hasAntenna yX10_hasAntenna, Cond.code yX10_hasAntenna cX10_hasAntenna 2 (some .boolean), Cond.methodLink RX10 140 yX10_meanOf, Cond.instanceMethod yX10_meanOf, Cond.selects RX10 yX10_meanOf yX10_meanOf, Cond.code yX10_meanOf cX10_meanOf 8 (some .long)]
def wsX10_keep : List Cond := .code yX10_keep cX10_keep 6 (some .int) :: ((wsX10_keep_r1 ++ (wsX10_keep_r2 ++ wsX10_keep_r3)) ++ wsX100)
def wsX10_make : List Cond := .code yX10_make cX10_make 4 (some .int) :: ([.fieldLink RX10 97 "CreepBoardModel" "held" "[I", .fieldLink RX10 103 "CreepBoardModel" "size" "[I", .methodLink RX10 193 yX10_isShelf, .instanceMethod yX10_isShelf, .selects RX10 yX10_isShelf yX10_isShelf, .initialized RX10, .code yX10_isShelf cX10_isShelf 2 (some .boolean), .methodLink RX10 112 yX10_in, .instanceMethod yX10_in, .selects RX10 yX10_in yX10_in, .code yX10_in cX10_in 4 (some .boolean), .methodLink RX10 196 yX10_wipe, .instanceMethod yX10_wipe, .selects RX10 yX10_wipe yX10_wipe, .code yX10_wipe cX10_wipe 3 none, .fieldLink RX10 106 "CreepBoardModel" "item" "[J"] ++ wsX100)
def wsX10_element : List Cond := .code yX10_element cX10_element 3 (some .long) :: ([.fieldLink RX10 97 "CreepBoardModel" "held" "[I", .fieldLink RX10 103 "CreepBoardModel" "size" "[I", .fieldLink RX10 7 "CreepBoardModel" "thrown" "I", .fieldLink RX10 106 "CreepBoardModel" "item" "[J", .methodLink RX10 193 yX10_isShelf, .instanceMethod yX10_isShelf, .selects RX10 yX10_isShelf yX10_isShelf, .initialized RX10, .code yX10_isShelf cX10_isShelf 2 (some .boolean), .methodLink RX10 112 yX10_in, .instanceMethod yX10_in, .selects RX10 yX10_in yX10_in, .code yX10_in cX10_in 4 (some .boolean)] ++ wsX100)
def wsX10_copy : List Cond := .code yX10_copy cX10_copy 7 (some .int) :: ([.fieldLink RX10 97 "CreepBoardModel" "held" "[I", .fieldLink RX10 103 "CreepBoardModel" "size" "[I", .fieldLink RX10 109 "CreepBoardModel" "aside" "[J", .fieldLink RX10 106 "CreepBoardModel" "item" "[J", .methodLink RX10 193 yX10_isShelf, .instanceMethod yX10_isShelf, .selects RX10 yX10_isShelf yX10_isShelf, .initialized RX10, .code yX10_isShelf cX10_isShelf 2 (some .boolean), .methodLink RX10 112 yX10_in, .instanceMethod yX10_in, .selects RX10 yX10_in yX10_in, .code yX10_in cX10_in 4 (some .boolean)] ++ wsX100)
def wsX10_weight_r1 : List Cond := [Cond.fieldLink RX10 97 "CreepBoardModel" "held" "[I", Cond.fieldLink RX10 100 "CreepBoardModel" "heldMark" "[I", Cond.fieldLink RX10 26 "CreepBoardModel" "offset" "[I", Cond.fieldLink RX10 16 "CreepBoardModel" "kind" "[I", Cond.methodLink RX10 193 yX10_isShelf, Cond.instanceMethod yX10_isShelf, Cond.selects RX10 yX10_isShelf yX10_isShelf, Cond.initialized RX10, Cond.code yX10_isShelf cX10_isShelf 2 (some .boolean), Cond.methodLink RX10 112 yX10_in, Cond.instanceMethod yX10_in, Cond.selects RX10 yX10_in yX10_in, Cond.code yX10_in cX10_in 4 (some .boolean), Cond.methodLink RX10 190 yX10_readingsOf, Cond.instanceMethod yX10_readingsOf, Cond.selects RX10 yX10_readingsOf yX10_readingsOf, Cond.code yX10_readingsOf cX10_readingsOf 4 (some .int), Cond.fieldLink RX10 35 "CreepBoardModel" "isRead" "[Z", Cond.methodLink RX10 128 yX10_spot, Cond.instanceMethod yX10_spot, Cond.selects RX10 yX10_spot yX10_spot, Cond.code yX10_spot cX10_spot 3 (some .int), Cond.methodLink RX10 123 yX10_hasAntenna, Cond.instanceMethod yX10_hasAntenna]
def wsX10_weight_r2 : List Cond := [Cond.selects RX10 yX10_hasAntenna yX10_hasAntenna, Cond.code yX10_hasAntenna cX10_hasAntenna 2 (some .boolean)]
def wsX10_weight : List Cond := .code yX10_weight cX10_weight 4 (some .int) :: ((wsX10_weight_r1 ++ wsX10_weight_r2) ++ wsX100)
def wsX10_toss : List Cond := .code yX10_toss cX10_toss 2 (some .int) :: ([.fieldLink RX10 97 "CreepBoardModel" "held" "[I", .fieldLink RX10 100 "CreepBoardModel" "heldMark" "[I", .methodLink RX10 193 yX10_isShelf, .instanceMethod yX10_isShelf, .selects RX10 yX10_isShelf yX10_isShelf, .initialized RX10, .code yX10_isShelf cX10_isShelf 2 (some .boolean), .methodLink RX10 112 yX10_in, .instanceMethod yX10_in, .selects RX10 yX10_in yX10_in, .code yX10_in cX10_in 4 (some .boolean), .methodLink RX10 123 yX10_hasAntenna, .instanceMethod yX10_hasAntenna, .selects RX10 yX10_hasAntenna yX10_hasAntenna, .code yX10_hasAntenna cX10_hasAntenna 2 (some .boolean), .fieldLink RX10 16 "CreepBoardModel" "kind" "[I"] ++ wsX100)
theorem dX10_init_0 : decode cX10_init 0 = .ok (.aload_n 0, 1) := by decide +kernel
theorem dX10_init_1 : decode cX10_init 1 = .ok (.invokespecial 1, 3) := by decide +kernel
theorem dX10_init_4 : decode cX10_init 4 = .ok (.aload_n 0, 1) := by decide +kernel
theorem dX10_init_5 : decode cX10_init 5 = .ok (.iconst 0, 1) := by decide +kernel
theorem dX10_init_6 : decode cX10_init 6 = .ok (.putfield 7, 3) := by decide +kernel
theorem dX10_init_9 : decode cX10_init 9 = .ok (.aload_n 0, 1) := by decide +kernel
theorem dX10_init_10 : decode cX10_init 10 = .ok (.iconst 0, 1) := by decide +kernel
theorem dX10_init_11 : decode cX10_init 11 = .ok (.putfield 13, 3) := by decide +kernel
theorem dX10_init_14 : decode cX10_init 14 = .ok (.aload_n 0, 1) := by decide +kernel
theorem dX10_init_15 : decode cX10_init 15 = .ok (.bipush 10, 2) := by decide +kernel
theorem dX10_init_17 : decode cX10_init 17 = .ok (.newarray .int, 2) := by decide +kernel
theorem dX10_init_19 : decode cX10_init 19 = .ok (.putfield 16, 3) := by decide +kernel
theorem dX10_init_22 : decode cX10_init 22 = .ok (.aload_n 0, 1) := by decide +kernel
theorem dX10_init_23 : decode cX10_init 23 = .ok (.bipush 10, 2) := by decide +kernel
theorem dX10_init_25 : decode cX10_init 25 = .ok (.newarray .int, 2) := by decide +kernel
theorem dX10_init_27 : decode cX10_init 27 = .ok (.putfield 20, 3) := by decide +kernel
theorem dX10_init_30 : decode cX10_init 30 = .ok (.aload_n 0, 1) := by decide +kernel
theorem dX10_init_31 : decode cX10_init 31 = .ok (.bipush 10, 2) := by decide +kernel
theorem dX10_init_33 : decode cX10_init 33 = .ok (.newarray .int, 2) := by decide +kernel
theorem dX10_init_35 : decode cX10_init 35 = .ok (.putfield 23, 3) := by decide +kernel
theorem dX10_init_38 : decode cX10_init 38 = .ok (.aload_n 0, 1) := by decide +kernel
theorem dX10_init_39 : decode cX10_init 39 = .ok (.bipush 10, 2) := by decide +kernel
theorem dX10_init_41 : decode cX10_init 41 = .ok (.newarray .int, 2) := by decide +kernel
theorem dX10_init_43 : decode cX10_init 43 = .ok (.putfield 26, 3) := by decide +kernel
theorem dX10_init_46 : decode cX10_init 46 = .ok (.aload_n 0, 1) := by decide +kernel
theorem dX10_init_47 : decode cX10_init 47 = .ok (.bipush 10, 2) := by decide +kernel
theorem dX10_init_49 : decode cX10_init 49 = .ok (.newarray .int, 2) := by decide +kernel
theorem dX10_init_51 : decode cX10_init 51 = .ok (.putfield 29, 3) := by decide +kernel
theorem dX10_init_54 : decode cX10_init 54 = .ok (.aload_n 0, 1) := by decide +kernel
theorem dX10_init_55 : decode cX10_init 55 = .ok (.bipush 10, 2) := by decide +kernel
theorem dX10_init_57 : decode cX10_init 57 = .ok (.newarray .int, 2) := by decide +kernel
theorem dX10_init_59 : decode cX10_init 59 = .ok (.putfield 32, 3) := by decide +kernel
theorem dX10_init_62 : decode cX10_init 62 = .ok (.aload_n 0, 1) := by decide +kernel
theorem dX10_init_63 : decode cX10_init 63 = .ok (.sipush 400, 3) := by decide +kernel
theorem dX10_init_66 : decode cX10_init 66 = .ok (.newarray .boolean, 2) := by decide +kernel
theorem dX10_init_68 : decode cX10_init 68 = .ok (.putfield 35, 3) := by decide +kernel
theorem dX10_init_71 : decode cX10_init 71 = .ok (.aload_n 0, 1) := by decide +kernel
theorem dX10_init_72 : decode cX10_init 72 = .ok (.sipush 800, 3) := by decide +kernel
theorem dX10_init_75 : decode cX10_init 75 = .ok (.newarray .int, 2) := by decide +kernel
theorem dX10_init_77 : decode cX10_init 77 = .ok (.putfield 39, 3) := by decide +kernel
theorem dX10_init_80 : decode cX10_init 80 = .ok (.aload_n 0, 1) := by decide +kernel
theorem dX10_init_81 : decode cX10_init 81 = .ok (.bipush 100, 2) := by decide +kernel
theorem dX10_init_83 : decode cX10_init 83 = .ok (.newarray .int, 2) := by decide +kernel
theorem dX10_init_85 : decode cX10_init 85 = .ok (.putfield 42, 3) := by decide +kernel
theorem dX10_init_88 : decode cX10_init 88 = .ok (.aload_n 0, 1) := by decide +kernel
theorem dX10_init_89 : decode cX10_init 89 = .ok (.sipush 200, 3) := by decide +kernel
theorem dX10_init_92 : decode cX10_init 92 = .ok (.newarray .int, 2) := by decide +kernel
theorem dX10_init_94 : decode cX10_init 94 = .ok (.putfield 45, 3) := by decide +kernel
theorem dX10_init_97 : decode cX10_init 97 = .ok (.aload_n 0, 1) := by decide +kernel
theorem dX10_init_98 : decode cX10_init 98 = .ok (.bipush 10, 2) := by decide +kernel
theorem dX10_init_100 : decode cX10_init 100 = .ok (.newarray .int, 2) := by decide +kernel
theorem dX10_init_102 : decode cX10_init 102 = .ok (.putfield 48, 3) := by decide +kernel
theorem dX10_init_105 : decode cX10_init 105 = .ok (.aload_n 0, 1) := by decide +kernel
theorem dX10_init_106 : decode cX10_init 106 = .ok (.bipush 10, 2) := by decide +kernel
theorem dX10_init_108 : decode cX10_init 108 = .ok (.newarray .int, 2) := by decide +kernel
theorem dX10_init_110 : decode cX10_init 110 = .ok (.putfield 51, 3) := by decide +kernel
theorem dX10_init_113 : decode cX10_init 113 = .ok (.aload_n 0, 1) := by decide +kernel
theorem dX10_init_114 : decode cX10_init 114 = .ok (.sipush 1024, 3) := by decide +kernel
theorem dX10_init_117 : decode cX10_init 117 = .ok (.newarray .int, 2) := by decide +kernel
theorem dX10_init_119 : decode cX10_init 119 = .ok (.putfield 54, 3) := by decide +kernel
theorem dX10_init_122 : decode cX10_init 122 = .ok (.aload_n 0, 1) := by decide +kernel
theorem dX10_init_123 : decode cX10_init 123 = .ok (.bipush 10, 2) := by decide +kernel
theorem dX10_init_125 : decode cX10_init 125 = .ok (.newarray .int, 2) := by decide +kernel
theorem dX10_init_127 : decode cX10_init 127 = .ok (.putfield 57, 3) := by decide +kernel
theorem dX10_init_130 : decode cX10_init 130 = .ok (.aload_n 0, 1) := by decide +kernel
theorem dX10_init_131 : decode cX10_init 131 = .ok (.sipush 1024, 3) := by decide +kernel
theorem dX10_init_134 : decode cX10_init 134 = .ok (.newarray .boolean, 2) := by decide +kernel
theorem dX10_init_136 : decode cX10_init 136 = .ok (.putfield 60, 3) := by decide +kernel
theorem dX10_init_139 : decode cX10_init 139 = .ok (.aload_n 0, 1) := by decide +kernel
theorem dX10_init_140 : decode cX10_init 140 = .ok (.iconst 0, 1) := by decide +kernel
theorem dX10_init_141 : decode cX10_init 141 = .ok (.putfield 63, 3) := by decide +kernel
theorem dX10_init_144 : decode cX10_init 144 = .ok (.aload_n 0, 1) := by decide +kernel
theorem dX10_init_145 : decode cX10_init 145 = .ok (.bipush 30, 2) := by decide +kernel
theorem dX10_init_147 : decode cX10_init 147 = .ok (.newarray .int, 2) := by decide +kernel
theorem dX10_init_149 : decode cX10_init 149 = .ok (.putfield 66, 3) := by decide +kernel
theorem dX10_init_152 : decode cX10_init 152 = .ok (.aload_n 0, 1) := by decide +kernel
theorem dX10_init_153 : decode cX10_init 153 = .ok (.iconst 0, 1) := by decide +kernel
theorem dX10_init_154 : decode cX10_init 154 = .ok (.putfield 69, 3) := by decide +kernel
theorem dX10_init_157 : decode cX10_init 157 = .ok (.aload_n 0, 1) := by decide +kernel
theorem dX10_init_158 : decode cX10_init 158 = .ok (.iconst 3, 1) := by decide +kernel
theorem dX10_init_159 : decode cX10_init 159 = .ok (.newarray .int, 2) := by decide +kernel
theorem dX10_init_161 : decode cX10_init 161 = .ok (.putfield 72, 3) := by decide +kernel
theorem dX10_init_164 : decode cX10_init 164 = .ok (.aload_n 0, 1) := by decide +kernel
theorem dX10_init_165 : decode cX10_init 165 = .ok (.iconst 3, 1) := by decide +kernel
theorem dX10_init_166 : decode cX10_init 166 = .ok (.newarray .int, 2) := by decide +kernel
theorem dX10_init_168 : decode cX10_init 168 = .ok (.putfield 75, 3) := by decide +kernel
theorem dX10_init_171 : decode cX10_init 171 = .ok (.aload_n 0, 1) := by decide +kernel
theorem dX10_init_172 : decode cX10_init 172 = .ok (.iconst 0, 1) := by decide +kernel
theorem dX10_init_173 : decode cX10_init 173 = .ok (.putfield 78, 3) := by decide +kernel
theorem dX10_init_176 : decode cX10_init 176 = .ok (.aload_n 0, 1) := by decide +kernel
theorem dX10_init_177 : decode cX10_init 177 = .ok (.bipush 14, 2) := by decide +kernel
theorem dX10_init_179 : decode cX10_init 179 = .ok (.newarray .int, 2) := by decide +kernel
theorem dX10_init_181 : decode cX10_init 181 = .ok (.putfield 81, 3) := by decide +kernel
theorem dX10_init_184 : decode cX10_init 184 = .ok (.aload_n 0, 1) := by decide +kernel
theorem dX10_init_185 : decode cX10_init 185 = .ok (.bipush 14, 2) := by decide +kernel
theorem dX10_init_187 : decode cX10_init 187 = .ok (.newarray .int, 2) := by decide +kernel
theorem dX10_init_189 : decode cX10_init 189 = .ok (.putfield 84, 3) := by decide +kernel
theorem dX10_init_192 : decode cX10_init 192 = .ok (.aload_n 0, 1) := by decide +kernel
theorem dX10_init_193 : decode cX10_init 193 = .ok (.bipush 14, 2) := by decide +kernel
theorem dX10_init_195 : decode cX10_init 195 = .ok (.newarray .int, 2) := by decide +kernel
theorem dX10_init_197 : decode cX10_init 197 = .ok (.putfield 87, 3) := by decide +kernel
theorem dX10_init_200 : decode cX10_init 200 = .ok (.aload_n 0, 1) := by decide +kernel
theorem dX10_init_201 : decode cX10_init 201 = .ok (.bipush 10, 2) := by decide +kernel
theorem dX10_init_203 : decode cX10_init 203 = .ok (.newarray .int, 2) := by decide +kernel
theorem dX10_init_205 : decode cX10_init 205 = .ok (.putfield 90, 3) := by decide +kernel
theorem dX10_init_208 : decode cX10_init 208 = .ok (.aload_n 0, 1) := by decide +kernel
theorem dX10_init_209 : decode cX10_init 209 = .ok (.bipush 10, 2) := by decide +kernel
theorem dX10_init_211 : decode cX10_init 211 = .ok (.newarray .long, 2) := by decide +kernel
theorem dX10_init_213 : decode cX10_init 213 = .ok (.putfield 93, 3) := by decide +kernel
theorem dX10_init_216 : decode cX10_init 216 = .ok (.aload_n 0, 1) := by decide +kernel
theorem dX10_init_217 : decode cX10_init 217 = .ok (.bipush 8, 2) := by decide +kernel
theorem dX10_init_219 : decode cX10_init 219 = .ok (.newarray .int, 2) := by decide +kernel
theorem dX10_init_221 : decode cX10_init 221 = .ok (.putfield 97, 3) := by decide +kernel
theorem dX10_init_224 : decode cX10_init 224 = .ok (.aload_n 0, 1) := by decide +kernel
theorem dX10_init_225 : decode cX10_init 225 = .ok (.bipush 8, 2) := by decide +kernel
theorem dX10_init_227 : decode cX10_init 227 = .ok (.newarray .int, 2) := by decide +kernel
theorem dX10_init_229 : decode cX10_init 229 = .ok (.putfield 100, 3) := by decide +kernel
theorem dX10_init_232 : decode cX10_init 232 = .ok (.aload_n 0, 1) := by decide +kernel
theorem dX10_init_233 : decode cX10_init 233 = .ok (.bipush 8, 2) := by decide +kernel
theorem dX10_init_235 : decode cX10_init 235 = .ok (.newarray .int, 2) := by decide +kernel
theorem dX10_init_237 : decode cX10_init 237 = .ok (.putfield 103, 3) := by decide +kernel
theorem dX10_init_240 : decode cX10_init 240 = .ok (.aload_n 0, 1) := by decide +kernel
theorem dX10_init_241 : decode cX10_init 241 = .ok (.sipush 480, 3) := by decide +kernel
theorem dX10_init_244 : decode cX10_init 244 = .ok (.newarray .long, 2) := by decide +kernel
theorem dX10_init_246 : decode cX10_init 246 = .ok (.putfield 106, 3) := by decide +kernel
theorem dX10_init_249 : decode cX10_init 249 = .ok (.aload_n 0, 1) := by decide +kernel
theorem dX10_init_250 : decode cX10_init 250 = .ok (.bipush 60, 2) := by decide +kernel
theorem dX10_init_252 : decode cX10_init 252 = .ok (.newarray .long, 2) := by decide +kernel
theorem dX10_init_254 : decode cX10_init 254 = .ok (.putfield 109, 3) := by decide +kernel
theorem dX10_init_257 : decode cX10_init 257 = .ok (.return_, 1) := by decide +kernel
theorem dX10_thrown_0 : decode cX10_thrown 0 = .ok (.aload_n 0, 1) := by decide +kernel
theorem dX10_thrown_1 : decode cX10_thrown 1 = .ok (.getfield 7, 3) := by decide +kernel
theorem dX10_thrown_4 : decode cX10_thrown 4 = .ok (.ireturn, 1) := by decide +kernel
theorem dX10_in_0 : decode cX10_in 0 = .ok (.iload_n 1, 1) := by decide +kernel
theorem dX10_in_1 : decode cX10_in 1 = .ok (.iload_n 2, 1) := by decide +kernel
theorem dX10_in_2 : decode cX10_in 2 = .ok (.if_icmp .lt 12, 3) := by decide +kernel
theorem dX10_in_5 : decode cX10_in 5 = .ok (.iload_n 1, 1) := by decide +kernel
theorem dX10_in_6 : decode cX10_in 6 = .ok (.iload_n 3, 1) := by decide +kernel
theorem dX10_in_7 : decode cX10_in 7 = .ok (.if_icmp .gt 7, 3) := by decide +kernel
theorem dX10_in_10 : decode cX10_in 10 = .ok (.iconst 1, 1) := by decide +kernel
theorem dX10_in_11 : decode cX10_in 11 = .ok (.goto 4, 3) := by decide +kernel
theorem dX10_in_14 : decode cX10_in 14 = .ok (.iconst 0, 1) := by decide +kernel
theorem dX10_in_15 : decode cX10_in 15 = .ok (.ireturn, 1) := by decide +kernel
set_option maxRecDepth 20000 in
theorem ggX10_isMark_X10_in : GoodIn wsX10_isMark wsX10_in := goodIn_r _ [6] (by decide +kernel) (by decide +kernel)
set_option maxRecDepth 20000 in
theorem gX10_isMark_X10_in : GoodIn wsX10_isMark (wsV RX10 112 RX10 yX10_in wsX10_in) := goodIn_app (goodIn_of _ (by decide +kernel)) ggX10_isMark_X10_in
theorem dX10_isMark_0 : decode cX10_isMark 0 = .ok (.aload_n 0, 1) := by decide +kernel
theorem dX10_isMark_1 : decode cX10_isMark 1 = .ok (.iload_n 1, 1) := by decide +kernel
theorem dX10_isMark_2 : decode cX10_isMark 2 = .ok (.iconst 0, 1) := by decide +kernel
theorem dX10_isMark_3 : decode cX10_isMark 3 = .ok (.aload_n 0, 1) := by decide +kernel
theorem dX10_isMark_4 : decode cX10_isMark 4 = .ok (.getfield 13, 3) := by decide +kernel
theorem dX10_isMark_7 : decode cX10_isMark 7 = .ok (.iconst 1, 1) := by decide +kernel
theorem dX10_isMark_8 : decode cX10_isMark 8 = .ok (.isub, 1) := by decide +kernel
theorem dX10_isMark_9 : decode cX10_isMark 9 = .ok (.invokevirtual 112, 3) := by decide +kernel
theorem dX10_isMark_12 : decode cX10_isMark 12 = .ok (.ireturn, 1) := by decide +kernel
set_option maxRecDepth 20000 in
theorem ggX10_isEpoch_X10_in : GoodIn wsX10_isEpoch wsX10_in := goodIn_r _ [5] (by decide +kernel) (by decide +kernel)
set_option maxRecDepth 20000 in
theorem gX10_isEpoch_X10_in : GoodIn wsX10_isEpoch (wsV RX10 112 RX10 yX10_in wsX10_in) := goodIn_app (goodIn_of _ (by decide +kernel)) ggX10_isEpoch_X10_in
theorem dX10_isEpoch_0 : decode cX10_isEpoch 0 = .ok (.aload_n 0, 1) := by decide +kernel
theorem dX10_isEpoch_1 : decode cX10_isEpoch 1 = .ok (.iload_n 1, 1) := by decide +kernel
theorem dX10_isEpoch_2 : decode cX10_isEpoch 2 = .ok (.iconst 0, 1) := by decide +kernel
theorem dX10_isEpoch_3 : decode cX10_isEpoch 3 = .ok (.bipush 39, 2) := by decide +kernel
theorem dX10_isEpoch_5 : decode cX10_isEpoch 5 = .ok (.invokevirtual 112, 3) := by decide +kernel
theorem dX10_isEpoch_8 : decode cX10_isEpoch 8 = .ok (.ireturn, 1) := by decide +kernel
theorem dX10_isSide_0 : decode cX10_isSide 0 = .ok (.iload_n 1, 1) := by decide +kernel
theorem dX10_isSide_1 : decode cX10_isSide 1 = .ok (.ifCond .eq 8, 3) := by decide +kernel
theorem dX10_isSide_4 : decode cX10_isSide 4 = .ok (.iload_n 1, 1) := by decide +kernel
theorem dX10_isSide_5 : decode cX10_isSide 5 = .ok (.iconst 1, 1) := by decide +kernel
theorem dX10_isSide_6 : decode cX10_isSide 6 = .ok (.if_icmp .ne 7, 3) := by decide +kernel
theorem dX10_isSide_9 : decode cX10_isSide 9 = .ok (.iconst 1, 1) := by decide +kernel
theorem dX10_isSide_10 : decode cX10_isSide 10 = .ok (.goto 4, 3) := by decide +kernel
theorem dX10_isSide_13 : decode cX10_isSide 13 = .ok (.iconst 0, 1) := by decide +kernel
theorem dX10_isSide_14 : decode cX10_isSide 14 = .ok (.ireturn, 1) := by decide +kernel
theorem dX10_hasAntenna_0 : decode cX10_hasAntenna 0 = .ok (.aload_n 0, 1) := by decide +kernel
theorem dX10_hasAntenna_1 : decode cX10_hasAntenna 1 = .ok (.getfield 16, 3) := by decide +kernel
theorem dX10_hasAntenna_4 : decode cX10_hasAntenna 4 = .ok (.iload_n 1, 1) := by decide +kernel
theorem dX10_hasAntenna_5 : decode cX10_hasAntenna 5 = .ok (.iaload, 1) := by decide +kernel
theorem dX10_hasAntenna_6 : decode cX10_hasAntenna 6 = .ok (.iconst 1, 1) := by decide +kernel
theorem dX10_hasAntenna_7 : decode cX10_hasAntenna 7 = .ok (.if_icmp .eq 13, 3) := by decide +kernel
theorem dX10_hasAntenna_10 : decode cX10_hasAntenna 10 = .ok (.aload_n 0, 1) := by decide +kernel
theorem dX10_hasAntenna_11 : decode cX10_hasAntenna 11 = .ok (.getfield 16, 3) := by decide +kernel
theorem dX10_hasAntenna_14 : decode cX10_hasAntenna 14 = .ok (.iload_n 1, 1) := by decide +kernel
theorem dX10_hasAntenna_15 : decode cX10_hasAntenna 15 = .ok (.iaload, 1) := by decide +kernel
theorem dX10_hasAntenna_16 : decode cX10_hasAntenna 16 = .ok (.iconst 2, 1) := by decide +kernel
theorem dX10_hasAntenna_17 : decode cX10_hasAntenna 17 = .ok (.if_icmp .ne 7, 3) := by decide +kernel
theorem dX10_hasAntenna_20 : decode cX10_hasAntenna 20 = .ok (.iconst 1, 1) := by decide +kernel
theorem dX10_hasAntenna_21 : decode cX10_hasAntenna 21 = .ok (.goto 4, 3) := by decide +kernel
theorem dX10_hasAntenna_24 : decode cX10_hasAntenna 24 = .ok (.iconst 0, 1) := by decide +kernel
theorem dX10_hasAntenna_25 : decode cX10_hasAntenna 25 = .ok (.ireturn, 1) := by decide +kernel
set_option maxRecDepth 20000 in
theorem ggX10_mark_X10_in : GoodIn wsX10_mark wsX10_in := goodIn_r _ [9] (by decide +kernel) (by decide +kernel)
set_option maxRecDepth 20000 in
theorem gX10_mark_X10_in : GoodIn wsX10_mark (wsV RX10 112 RX10 yX10_in wsX10_in) := goodIn_app (goodIn_of _ (by decide +kernel)) ggX10_mark_X10_in
theorem dX10_mark_0 : decode cX10_mark 0 = .ok (.aload_n 0, 1) := by decide +kernel
theorem dX10_mark_1 : decode cX10_mark 1 = .ok (.iload_n 1, 1) := by decide +kernel
theorem dX10_mark_2 : decode cX10_mark 2 = .ok (.iconst 0, 1) := by decide +kernel
theorem dX10_mark_3 : decode cX10_mark 3 = .ok (.iconst 3, 1) := by decide +kernel
theorem dX10_mark_4 : decode cX10_mark 4 = .ok (.invokevirtual 112, 3) := by decide +kernel
theorem dX10_mark_7 : decode cX10_mark 7 = .ok (.ifCond .eq 31, 3) := by decide +kernel
theorem dX10_mark_10 : decode cX10_mark 10 = .ok (.aload_n 0, 1) := by decide +kernel
theorem dX10_mark_11 : decode cX10_mark 11 = .ok (.iload_n 2, 1) := by decide +kernel
theorem dX10_mark_12 : decode cX10_mark 12 = .ok (.sipush (-1000), 3) := by decide +kernel
theorem dX10_mark_15 : decode cX10_mark 15 = .ok (.sipush 1000, 3) := by decide +kernel
theorem dX10_mark_18 : decode cX10_mark 18 = .ok (.invokevirtual 112, 3) := by decide +kernel
theorem dX10_mark_21 : decode cX10_mark 21 = .ok (.ifCond .eq 17, 3) := by decide +kernel
theorem dX10_mark_24 : decode cX10_mark 24 = .ok (.aload_n 0, 1) := by decide +kernel
theorem dX10_mark_25 : decode cX10_mark 25 = .ok (.iload_n 3, 1) := by decide +kernel
theorem dX10_mark_26 : decode cX10_mark 26 = .ok (.sipush (-1000), 3) := by decide +kernel
theorem dX10_mark_29 : decode cX10_mark 29 = .ok (.sipush 1000, 3) := by decide +kernel
theorem dX10_mark_32 : decode cX10_mark 32 = .ok (.invokevirtual 112, 3) := by decide +kernel
theorem dX10_mark_35 : decode cX10_mark 35 = .ok (.ifCond .ne 5, 3) := by decide +kernel
theorem dX10_mark_38 : decode cX10_mark 38 = .ok (.iconst (-1), 1) := by decide +kernel
theorem dX10_mark_39 : decode cX10_mark 39 = .ok (.ireturn, 1) := by decide +kernel
theorem dX10_mark_40 : decode cX10_mark 40 = .ok (.aload_n 0, 1) := by decide +kernel
theorem dX10_mark_41 : decode cX10_mark 41 = .ok (.getfield 13, 3) := by decide +kernel
theorem dX10_mark_44 : decode cX10_mark 44 = .ok (.bipush 10, 2) := by decide +kernel
theorem dX10_mark_46 : decode cX10_mark 46 = .ok (.if_icmp .ne 6, 3) := by decide +kernel
theorem dX10_mark_49 : decode cX10_mark 49 = .ok (.bipush (-2), 2) := by decide +kernel
theorem dX10_mark_51 : decode cX10_mark 51 = .ok (.ireturn, 1) := by decide +kernel
theorem dX10_mark_52 : decode cX10_mark 52 = .ok (.aload_n 0, 1) := by decide +kernel
theorem dX10_mark_53 : decode cX10_mark 53 = .ok (.getfield 16, 3) := by decide +kernel
theorem dX10_mark_56 : decode cX10_mark 56 = .ok (.aload_n 0, 1) := by decide +kernel
theorem dX10_mark_57 : decode cX10_mark 57 = .ok (.getfield 13, 3) := by decide +kernel
theorem dX10_mark_60 : decode cX10_mark 60 = .ok (.iload_n 1, 1) := by decide +kernel
theorem dX10_mark_61 : decode cX10_mark 61 = .ok (.iastore, 1) := by decide +kernel
theorem dX10_mark_62 : decode cX10_mark 62 = .ok (.aload_n 0, 1) := by decide +kernel
theorem dX10_mark_63 : decode cX10_mark 63 = .ok (.getfield 20, 3) := by decide +kernel
theorem dX10_mark_66 : decode cX10_mark 66 = .ok (.aload_n 0, 1) := by decide +kernel
theorem dX10_mark_67 : decode cX10_mark 67 = .ok (.getfield 13, 3) := by decide +kernel
theorem dX10_mark_70 : decode cX10_mark 70 = .ok (.iload_n 2, 1) := by decide +kernel
theorem dX10_mark_71 : decode cX10_mark 71 = .ok (.iastore, 1) := by decide +kernel
theorem dX10_mark_72 : decode cX10_mark 72 = .ok (.aload_n 0, 1) := by decide +kernel
theorem dX10_mark_73 : decode cX10_mark 73 = .ok (.getfield 23, 3) := by decide +kernel
theorem dX10_mark_76 : decode cX10_mark 76 = .ok (.aload_n 0, 1) := by decide +kernel
theorem dX10_mark_77 : decode cX10_mark 77 = .ok (.getfield 13, 3) := by decide +kernel
theorem dX10_mark_80 : decode cX10_mark 80 = .ok (.iload_n 3, 1) := by decide +kernel
theorem dX10_mark_81 : decode cX10_mark 81 = .ok (.iastore, 1) := by decide +kernel
theorem dX10_mark_82 : decode cX10_mark 82 = .ok (.aload_n 0, 1) := by decide +kernel
theorem dX10_mark_83 : decode cX10_mark 83 = .ok (.dup, 1) := by decide +kernel
theorem dX10_mark_84 : decode cX10_mark 84 = .ok (.getfield 13, 3) := by decide +kernel
theorem dX10_mark_87 : decode cX10_mark 87 = .ok (.iconst 1, 1) := by decide +kernel
theorem dX10_mark_88 : decode cX10_mark 88 = .ok (.iadd, 1) := by decide +kernel
theorem dX10_mark_89 : decode cX10_mark 89 = .ok (.putfield 13, 3) := by decide +kernel
theorem dX10_mark_92 : decode cX10_mark 92 = .ok (.aload_n 0, 1) := by decide +kernel
theorem dX10_mark_93 : decode cX10_mark 93 = .ok (.getfield 13, 3) := by decide +kernel
theorem dX10_mark_96 : decode cX10_mark 96 = .ok (.iconst 1, 1) := by decide +kernel
theorem dX10_mark_97 : decode cX10_mark 97 = .ok (.isub, 1) := by decide +kernel
theorem dX10_mark_98 : decode cX10_mark 98 = .ok (.ireturn, 1) := by decide +kernel
set_option maxRecDepth 20000 in
theorem ggX10_antenna_X10_isMark : GoodIn wsX10_antenna wsX10_isMark := goodIn_r _ [7, 8, 9, 10, 11, 6, 12, 22, 23, 24, 25, 26, 27, 28, 29, 30, 31, 32, 33, 34, 35, 36, 37, 38, 39, 40, 41, 42, 43, 44, 45, 46, 47, 48, 49, 50, 51, 52, 53, 54] (by decide +kernel) (by decide +kernel)
set_option maxRecDepth 20000 in
theorem gX10_antenna_X10_isMark : GoodIn wsX10_antenna (wsV RX10 116 RX10 yX10_isMark wsX10_isMark) := goodIn_app (goodIn_of _ (by decide +kernel)) ggX10_antenna_X10_isMark
set_option maxRecDepth 20000 in
theorem ggX10_antenna_X10_isEpoch : GoodIn wsX10_antenna wsX10_isEpoch := goodIn_r _ [16, 9, 10, 11, 6, 12] (by decide +kernel) (by decide +kernel)
set_option maxRecDepth 20000 in
theorem gX10_antenna_X10_isEpoch : GoodIn wsX10_antenna (wsV RX10 120 RX10 yX10_isEpoch wsX10_isEpoch) := goodIn_app (goodIn_of _ (by decide +kernel)) ggX10_antenna_X10_isEpoch
set_option maxRecDepth 20000 in
theorem ggX10_antenna_X10_in : GoodIn wsX10_antenna wsX10_in := goodIn_r _ [12] (by decide +kernel) (by decide +kernel)
set_option maxRecDepth 20000 in
theorem gX10_antenna_X10_in : GoodIn wsX10_antenna (wsV RX10 112 RX10 yX10_in wsX10_in) := goodIn_app (goodIn_of _ (by decide +kernel)) ggX10_antenna_X10_in
set_option maxRecDepth 20000 in
theorem ggX10_antenna_X10_hasAntenna : GoodIn wsX10_antenna wsX10_hasAntenna := goodIn_r _ [20, 21, 22, 23, 24, 25, 26, 27, 28, 29, 30, 31, 32, 33, 34, 35, 36, 37, 38, 39, 40, 41, 42, 43, 44, 45, 46, 47, 48, 49, 50, 51, 52, 53, 54] (by decide +kernel) (by decide +kernel)
set_option maxRecDepth 20000 in
theorem gX10_antenna_X10_hasAntenna : GoodIn wsX10_antenna (wsV RX10 123 RX10 yX10_hasAntenna wsX10_hasAntenna) := goodIn_app (goodIn_of _ (by decide +kernel)) ggX10_antenna_X10_hasAntenna
theorem dX10_antenna_0 : decode cX10_antenna 0 = .ok (.aload_n 0, 1) := by decide +kernel
theorem dX10_antenna_1 : decode cX10_antenna 1 = .ok (.iload_n 1, 1) := by decide +kernel
theorem dX10_antenna_2 : decode cX10_antenna 2 = .ok (.invokevirtual 116, 3) := by decide +kernel
theorem dX10_antenna_5 : decode cX10_antenna 5 = .ok (.ifCond .eq 23, 3) := by decide +kernel
theorem dX10_antenna_8 : decode cX10_antenna 8 = .ok (.aload_n 0, 1) := by decide +kernel
theorem dX10_antenna_9 : decode cX10_antenna 9 = .ok (.iload_n 2, 1) := by decide +kernel
theorem dX10_antenna_10 : decode cX10_antenna 10 = .ok (.invokevirtual 120, 3) := by decide +kernel
theorem dX10_antenna_13 : decode cX10_antenna 13 = .ok (.ifCond .eq 15, 3) := by decide +kernel
theorem dX10_antenna_16 : decode cX10_antenna 16 = .ok (.aload_n 0, 1) := by decide +kernel
theorem dX10_antenna_17 : decode cX10_antenna 17 = .ok (.iload_n 3, 1) := by decide +kernel
theorem dX10_antenna_18 : decode cX10_antenna 18 = .ok (.bipush (-99), 2) := by decide +kernel
theorem dX10_antenna_20 : decode cX10_antenna 20 = .ok (.bipush 99, 2) := by decide +kernel
theorem dX10_antenna_22 : decode cX10_antenna 22 = .ok (.invokevirtual 112, 3) := by decide +kernel
theorem dX10_antenna_25 : decode cX10_antenna 25 = .ok (.ifCond .ne 7, 3) := by decide +kernel
theorem dX10_antenna_28 : decode cX10_antenna 28 = .ok (.sipush (-1001), 3) := by decide +kernel
theorem dX10_antenna_31 : decode cX10_antenna 31 = .ok (.ireturn, 1) := by decide +kernel
theorem dX10_antenna_32 : decode cX10_antenna 32 = .ok (.aload_n 0, 1) := by decide +kernel
theorem dX10_antenna_33 : decode cX10_antenna 33 = .ok (.iload_n 1, 1) := by decide +kernel
theorem dX10_antenna_34 : decode cX10_antenna 34 = .ok (.invokevirtual 123, 3) := by decide +kernel
theorem dX10_antenna_37 : decode cX10_antenna 37 = .ok (.ifCond .ne 7, 3) := by decide +kernel
theorem dX10_antenna_40 : decode cX10_antenna 40 = .ok (.sipush (-1003), 3) := by decide +kernel
theorem dX10_antenna_43 : decode cX10_antenna 43 = .ok (.ireturn, 1) := by decide +kernel
theorem dX10_antenna_44 : decode cX10_antenna 44 = .ok (.aload_n 0, 1) := by decide +kernel
theorem dX10_antenna_45 : decode cX10_antenna 45 = .ok (.getfield 26, 3) := by decide +kernel
theorem dX10_antenna_48 : decode cX10_antenna 48 = .ok (.iload_n 1, 1) := by decide +kernel
theorem dX10_antenna_49 : decode cX10_antenna 49 = .ok (.iaload, 1) := by decide +kernel
theorem dX10_antenna_50 : decode cX10_antenna 50 = .ok (.istore 4, 2) := by decide +kernel
theorem dX10_antenna_52 : decode cX10_antenna 52 = .ok (.aload_n 0, 1) := by decide +kernel
theorem dX10_antenna_53 : decode cX10_antenna 53 = .ok (.getfield 26, 3) := by decide +kernel
theorem dX10_antenna_56 : decode cX10_antenna 56 = .ok (.iload_n 1, 1) := by decide +kernel
theorem dX10_antenna_57 : decode cX10_antenna 57 = .ok (.iload_n 3, 1) := by decide +kernel
theorem dX10_antenna_58 : decode cX10_antenna 58 = .ok (.iastore, 1) := by decide +kernel
theorem dX10_antenna_59 : decode cX10_antenna 59 = .ok (.aload_n 0, 1) := by decide +kernel
theorem dX10_antenna_60 : decode cX10_antenna 60 = .ok (.getfield 29, 3) := by decide +kernel
theorem dX10_antenna_63 : decode cX10_antenna 63 = .ok (.iload_n 1, 1) := by decide +kernel
theorem dX10_antenna_64 : decode cX10_antenna 64 = .ok (.iload_n 2, 1) := by decide +kernel
theorem dX10_antenna_65 : decode cX10_antenna 65 = .ok (.iastore, 1) := by decide +kernel
theorem dX10_antenna_66 : decode cX10_antenna 66 = .ok (.iload 4, 2) := by decide +kernel
theorem dX10_antenna_68 : decode cX10_antenna 68 = .ok (.ireturn, 1) := by decide +kernel
theorem dX10_spot_0 : decode cX10_spot 0 = .ok (.bipush 40, 2) := by decide +kernel
theorem dX10_spot_2 : decode cX10_spot 2 = .ok (.iload_n 1, 1) := by decide +kernel
theorem dX10_spot_3 : decode cX10_spot 3 = .ok (.imul, 1) := by decide +kernel
theorem dX10_spot_4 : decode cX10_spot 4 = .ok (.iload_n 2, 1) := by decide +kernel
theorem dX10_spot_5 : decode cX10_spot 5 = .ok (.iadd, 1) := by decide +kernel
theorem dX10_spot_6 : decode cX10_spot 6 = .ok (.ireturn, 1) := by decide +kernel
set_option maxRecDepth 20000 in
theorem ggX10_read_X10_isMark : GoodIn wsX10_read wsX10_isMark := goodIn_r _ [9, 10, 11, 12, 13, 8, 14, 23, 24, 25, 26, 27, 28, 29, 30, 31, 32, 33, 34, 35, 36, 37, 38, 39, 40, 41, 42, 43, 44, 45, 46, 47, 48, 49, 50, 51, 52, 53, 54, 55] (by decide +kernel) (by decide +kernel)
set_option maxRecDepth 20000 in
theorem gX10_read_X10_isMark : GoodIn wsX10_read (wsV RX10 116 RX10 yX10_isMark wsX10_isMark) := goodIn_app (goodIn_of _ (by decide +kernel)) ggX10_read_X10_isMark
set_option maxRecDepth 20000 in
theorem ggX10_read_X10_isEpoch : GoodIn wsX10_read wsX10_isEpoch := goodIn_r _ [18, 11, 12, 13, 8, 14] (by decide +kernel) (by decide +kernel)
set_option maxRecDepth 20000 in
theorem gX10_read_X10_isEpoch : GoodIn wsX10_read (wsV RX10 120 RX10 yX10_isEpoch wsX10_isEpoch) := goodIn_app (goodIn_of _ (by decide +kernel)) ggX10_read_X10_isEpoch
set_option maxRecDepth 20000 in
theorem ggX10_read_X10_in : GoodIn wsX10_read wsX10_in := goodIn_r _ [14] (by decide +kernel) (by decide +kernel)
set_option maxRecDepth 20000 in
theorem gX10_read_X10_in : GoodIn wsX10_read (wsV RX10 112 RX10 yX10_in wsX10_in) := goodIn_app (goodIn_of _ (by decide +kernel)) ggX10_read_X10_in
set_option maxRecDepth 20000 in
theorem ggX10_read_X10_spot : GoodIn wsX10_read wsX10_spot := goodIn_r _ [22] (by decide +kernel) (by decide +kernel)
set_option maxRecDepth 20000 in
theorem gX10_read_X10_spot : GoodIn wsX10_read (wsV RX10 128 RX10 yX10_spot wsX10_spot) := goodIn_app (goodIn_of _ (by decide +kernel)) ggX10_read_X10_spot
theorem dX10_read_0 : decode cX10_read 0 = .ok (.aload_n 0, 1) := by decide +kernel
theorem dX10_read_1 : decode cX10_read 1 = .ok (.iload_n 1, 1) := by decide +kernel
theorem dX10_read_2 : decode cX10_read 2 = .ok (.invokevirtual 116, 3) := by decide +kernel
theorem dX10_read_5 : decode cX10_read 5 = .ok (.ifCond .eq 36, 3) := by decide +kernel
theorem dX10_read_8 : decode cX10_read 8 = .ok (.aload_n 0, 1) := by decide +kernel
theorem dX10_read_9 : decode cX10_read 9 = .ok (.iload_n 2, 1) := by decide +kernel
theorem dX10_read_10 : decode cX10_read 10 = .ok (.invokevirtual 120, 3) := by decide +kernel
theorem dX10_read_13 : decode cX10_read 13 = .ok (.ifCond .eq 28, 3) := by decide +kernel
theorem dX10_read_16 : decode cX10_read 16 = .ok (.aload_n 0, 1) := by decide +kernel
theorem dX10_read_17 : decode cX10_read 17 = .ok (.iload_n 3, 1) := by decide +kernel
theorem dX10_read_18 : decode cX10_read 18 = .ok (.ldc 126, 2) := by decide +kernel
theorem dX10_read_20 : decode cX10_read 20 = .ok (.ldc 127, 2) := by decide +kernel
theorem dX10_read_22 : decode cX10_read 22 = .ok (.invokevirtual 112, 3) := by decide +kernel
theorem dX10_read_25 : decode cX10_read 25 = .ok (.ifCond .eq 16, 3) := by decide +kernel
theorem dX10_read_28 : decode cX10_read 28 = .ok (.aload_n 0, 1) := by decide +kernel
theorem dX10_read_29 : decode cX10_read 29 = .ok (.iload 4, 2) := by decide +kernel
theorem dX10_read_31 : decode cX10_read 31 = .ok (.ldc 126, 2) := by decide +kernel
theorem dX10_read_33 : decode cX10_read 33 = .ok (.ldc 127, 2) := by decide +kernel
theorem dX10_read_35 : decode cX10_read 35 = .ok (.invokevirtual 112, 3) := by decide +kernel
theorem dX10_read_38 : decode cX10_read 38 = .ok (.ifCond .ne 5, 3) := by decide +kernel
theorem dX10_read_41 : decode cX10_read 41 = .ok (.iconst (-1), 1) := by decide +kernel
theorem dX10_read_42 : decode cX10_read 42 = .ok (.ireturn, 1) := by decide +kernel
theorem dX10_read_43 : decode cX10_read 43 = .ok (.aload_n 0, 1) := by decide +kernel
theorem dX10_read_44 : decode cX10_read 44 = .ok (.getfield 35, 3) := by decide +kernel
theorem dX10_read_47 : decode cX10_read 47 = .ok (.aload_n 0, 1) := by decide +kernel
theorem dX10_read_48 : decode cX10_read 48 = .ok (.iload_n 1, 1) := by decide +kernel
theorem dX10_read_49 : decode cX10_read 49 = .ok (.iload_n 2, 1) := by decide +kernel
theorem dX10_read_50 : decode cX10_read 50 = .ok (.invokevirtual 128, 3) := by decide +kernel
theorem dX10_read_53 : decode cX10_read 53 = .ok (.baload, 1) := by decide +kernel
theorem dX10_read_54 : decode cX10_read 54 = .ok (.ifCond .eq 7, 3) := by decide +kernel
theorem dX10_read_57 : decode cX10_read 57 = .ok (.iconst 0, 1) := by decide +kernel
theorem dX10_read_58 : decode cX10_read 58 = .ok (.goto 4, 3) := by decide +kernel
theorem dX10_read_61 : decode cX10_read 61 = .ok (.iconst 1, 1) := by decide +kernel
theorem dX10_read_62 : decode cX10_read 62 = .ok (.istore 5, 2) := by decide +kernel
theorem dX10_read_64 : decode cX10_read 64 = .ok (.aload_n 0, 1) := by decide +kernel
theorem dX10_read_65 : decode cX10_read 65 = .ok (.getfield 35, 3) := by decide +kernel
theorem dX10_read_68 : decode cX10_read 68 = .ok (.aload_n 0, 1) := by decide +kernel
theorem dX10_read_69 : decode cX10_read 69 = .ok (.iload_n 1, 1) := by decide +kernel
theorem dX10_read_70 : decode cX10_read 70 = .ok (.iload_n 2, 1) := by decide +kernel
theorem dX10_read_71 : decode cX10_read 71 = .ok (.invokevirtual 128, 3) := by decide +kernel
theorem dX10_read_74 : decode cX10_read 74 = .ok (.iconst 1, 1) := by decide +kernel
theorem dX10_read_75 : decode cX10_read 75 = .ok (.bastore, 1) := by decide +kernel
theorem dX10_read_76 : decode cX10_read 76 = .ok (.aload_n 0, 1) := by decide +kernel
theorem dX10_read_77 : decode cX10_read 77 = .ok (.getfield 39, 3) := by decide +kernel
theorem dX10_read_80 : decode cX10_read 80 = .ok (.iconst 2, 1) := by decide +kernel
theorem dX10_read_81 : decode cX10_read 81 = .ok (.aload_n 0, 1) := by decide +kernel
theorem dX10_read_82 : decode cX10_read 82 = .ok (.iload_n 1, 1) := by decide +kernel
theorem dX10_read_83 : decode cX10_read 83 = .ok (.iload_n 2, 1) := by decide +kernel
theorem dX10_read_84 : decode cX10_read 84 = .ok (.invokevirtual 128, 3) := by decide +kernel
theorem dX10_read_87 : decode cX10_read 87 = .ok (.imul, 1) := by decide +kernel
theorem dX10_read_88 : decode cX10_read 88 = .ok (.iload_n 3, 1) := by decide +kernel
theorem dX10_read_89 : decode cX10_read 89 = .ok (.iastore, 1) := by decide +kernel
theorem dX10_read_90 : decode cX10_read 90 = .ok (.aload_n 0, 1) := by decide +kernel
theorem dX10_read_91 : decode cX10_read 91 = .ok (.getfield 39, 3) := by decide +kernel
theorem dX10_read_94 : decode cX10_read 94 = .ok (.iconst 2, 1) := by decide +kernel
theorem dX10_read_95 : decode cX10_read 95 = .ok (.aload_n 0, 1) := by decide +kernel
theorem dX10_read_96 : decode cX10_read 96 = .ok (.iload_n 1, 1) := by decide +kernel
theorem dX10_read_97 : decode cX10_read 97 = .ok (.iload_n 2, 1) := by decide +kernel
theorem dX10_read_98 : decode cX10_read 98 = .ok (.invokevirtual 128, 3) := by decide +kernel
theorem dX10_read_101 : decode cX10_read 101 = .ok (.imul, 1) := by decide +kernel
theorem dX10_read_102 : decode cX10_read 102 = .ok (.iconst 1, 1) := by decide +kernel
theorem dX10_read_103 : decode cX10_read 103 = .ok (.iadd, 1) := by decide +kernel
theorem dX10_read_104 : decode cX10_read 104 = .ok (.iload 4, 2) := by decide +kernel
theorem dX10_read_106 : decode cX10_read 106 = .ok (.iastore, 1) := by decide +kernel
theorem dX10_read_107 : decode cX10_read 107 = .ok (.iload 5, 2) := by decide +kernel
theorem dX10_read_109 : decode cX10_read 109 = .ok (.ireturn, 1) := by decide +kernel
set_option maxRecDepth 20000 in
theorem ggX10_gap_X10_isMark : GoodIn wsX10_gap wsX10_isMark := goodIn_r _ [6, 7, 8, 9, 10, 5, 11, 20, 21, 22, 23, 24, 25, 26, 27, 28, 29, 30, 31, 32, 33, 34, 35, 36, 37, 38, 39, 40, 41, 42, 43, 44, 45, 46, 47, 48, 49, 50, 51, 52] (by decide +kernel) (by decide +kernel)
set_option maxRecDepth 20000 in
theorem gX10_gap_X10_isMark : GoodIn wsX10_gap (wsV RX10 116 RX10 yX10_isMark wsX10_isMark) := goodIn_app (goodIn_of _ (by decide +kernel)) ggX10_gap_X10_isMark
set_option maxRecDepth 20000 in
theorem ggX10_gap_X10_isEpoch : GoodIn wsX10_gap wsX10_isEpoch := goodIn_r _ [15, 8, 9, 10, 5, 11] (by decide +kernel) (by decide +kernel)
set_option maxRecDepth 20000 in
theorem gX10_gap_X10_isEpoch : GoodIn wsX10_gap (wsV RX10 120 RX10 yX10_isEpoch wsX10_isEpoch) := goodIn_app (goodIn_of _ (by decide +kernel)) ggX10_gap_X10_isEpoch
set_option maxRecDepth 20000 in
theorem ggX10_gap_X10_spot : GoodIn wsX10_gap wsX10_spot := goodIn_r _ [19] (by decide +kernel) (by decide +kernel)
set_option maxRecDepth 20000 in
theorem gX10_gap_X10_spot : GoodIn wsX10_gap (wsV RX10 128 RX10 yX10_spot wsX10_spot) := goodIn_app (goodIn_of _ (by decide +kernel)) ggX10_gap_X10_spot
theorem dX10_gap_0 : decode cX10_gap 0 = .ok (.aload_n 0, 1) := by decide +kernel
theorem dX10_gap_1 : decode cX10_gap 1 = .ok (.iload_n 1, 1) := by decide +kernel
theorem dX10_gap_2 : decode cX10_gap 2 = .ok (.invokevirtual 116, 3) := by decide +kernel
theorem dX10_gap_5 : decode cX10_gap 5 = .ok (.ifCond .eq 11, 3) := by decide +kernel
theorem dX10_gap_8 : decode cX10_gap 8 = .ok (.aload_n 0, 1) := by decide +kernel
theorem dX10_gap_9 : decode cX10_gap 9 = .ok (.iload_n 2, 1) := by decide +kernel
theorem dX10_gap_10 : decode cX10_gap 10 = .ok (.invokevirtual 120, 3) := by decide +kernel
theorem dX10_gap_13 : decode cX10_gap 13 = .ok (.ifCond .ne 5, 3) := by decide +kernel
theorem dX10_gap_16 : decode cX10_gap 16 = .ok (.iconst (-1), 1) := by decide +kernel
theorem dX10_gap_17 : decode cX10_gap 17 = .ok (.ireturn, 1) := by decide +kernel
theorem dX10_gap_18 : decode cX10_gap 18 = .ok (.aload_n 0, 1) := by decide +kernel
theorem dX10_gap_19 : decode cX10_gap 19 = .ok (.getfield 35, 3) := by decide +kernel
theorem dX10_gap_22 : decode cX10_gap 22 = .ok (.aload_n 0, 1) := by decide +kernel
theorem dX10_gap_23 : decode cX10_gap 23 = .ok (.iload_n 1, 1) := by decide +kernel
theorem dX10_gap_24 : decode cX10_gap 24 = .ok (.iload_n 2, 1) := by decide +kernel
theorem dX10_gap_25 : decode cX10_gap 25 = .ok (.invokevirtual 128, 3) := by decide +kernel
theorem dX10_gap_28 : decode cX10_gap 28 = .ok (.baload, 1) := by decide +kernel
theorem dX10_gap_29 : decode cX10_gap 29 = .ok (.ifCond .eq 7, 3) := by decide +kernel
theorem dX10_gap_32 : decode cX10_gap 32 = .ok (.iconst 1, 1) := by decide +kernel
theorem dX10_gap_33 : decode cX10_gap 33 = .ok (.goto 4, 3) := by decide +kernel
theorem dX10_gap_36 : decode cX10_gap 36 = .ok (.iconst 0, 1) := by decide +kernel
theorem dX10_gap_37 : decode cX10_gap 37 = .ok (.istore_n 3, 1) := by decide +kernel
theorem dX10_gap_38 : decode cX10_gap 38 = .ok (.aload_n 0, 1) := by decide +kernel
theorem dX10_gap_39 : decode cX10_gap 39 = .ok (.getfield 35, 3) := by decide +kernel
theorem dX10_gap_42 : decode cX10_gap 42 = .ok (.aload_n 0, 1) := by decide +kernel
theorem dX10_gap_43 : decode cX10_gap 43 = .ok (.iload_n 1, 1) := by decide +kernel
theorem dX10_gap_44 : decode cX10_gap 44 = .ok (.iload_n 2, 1) := by decide +kernel
theorem dX10_gap_45 : decode cX10_gap 45 = .ok (.invokevirtual 128, 3) := by decide +kernel
theorem dX10_gap_48 : decode cX10_gap 48 = .ok (.iconst 0, 1) := by decide +kernel
theorem dX10_gap_49 : decode cX10_gap 49 = .ok (.bastore, 1) := by decide +kernel
theorem dX10_gap_50 : decode cX10_gap 50 = .ok (.iload_n 3, 1) := by decide +kernel
theorem dX10_gap_51 : decode cX10_gap 51 = .ok (.ireturn, 1) := by decide +kernel
set_option maxRecDepth 20000 in
theorem ggX10_step_X10_isMark : GoodIn wsX10_step wsX10_isMark := goodIn_r _ [8, 9, 10, 11, 12, 7, 13, 18, 19, 20, 21, 22, 23, 24, 25, 26, 27, 28, 29, 30, 31, 32, 33, 34, 35, 36, 37, 38, 39, 40, 41, 42, 43, 44, 45, 46, 47, 48, 49, 50] (by decide +kernel) (by decide +kernel)
set_option maxRecDepth 20000 in
theorem gX10_step_X10_isMark : GoodIn wsX10_step (wsV RX10 116 RX10 yX10_isMark wsX10_isMark) := goodIn_app (goodIn_of _ (by decide +kernel)) ggX10_step_X10_isMark
set_option maxRecDepth 20000 in
theorem ggX10_step_X10_isEpoch : GoodIn wsX10_step wsX10_isEpoch := goodIn_r _ [17, 10, 11, 12, 7, 13] (by decide +kernel) (by decide +kernel)
set_option maxRecDepth 20000 in
theorem gX10_step_X10_isEpoch : GoodIn wsX10_step (wsV RX10 120 RX10 yX10_isEpoch wsX10_isEpoch) := goodIn_app (goodIn_of _ (by decide +kernel)) ggX10_step_X10_isEpoch
set_option maxRecDepth 20000 in
theorem ggX10_step_X10_in : GoodIn wsX10_step wsX10_in := goodIn_r _ [13] (by decide +kernel) (by decide +kernel)
set_option maxRecDepth 20000 in
theorem gX10_step_X10_in : GoodIn wsX10_step (wsV RX10 112 RX10 yX10_in wsX10_in) := goodIn_app (goodIn_of _ (by decide +kernel)) ggX10_step_X10_in
theorem dX10_step_0 : decode cX10_step 0 = .ok (.aload_n 0, 1) := by decide +kernel
theorem dX10_step_1 : decode cX10_step 1 = .ok (.iload_n 1, 1) := by decide +kernel
theorem dX10_step_2 : decode cX10_step 2 = .ok (.invokevirtual 116, 3) := by decide +kernel
theorem dX10_step_5 : decode cX10_step 5 = .ok (.ifCond .eq 40, 3) := by decide +kernel
theorem dX10_step_8 : decode cX10_step 8 = .ok (.aload_n 0, 1) := by decide +kernel
theorem dX10_step_9 : decode cX10_step 9 = .ok (.iload_n 2, 1) := by decide +kernel
theorem dX10_step_10 : decode cX10_step 10 = .ok (.invokevirtual 120, 3) := by decide +kernel
theorem dX10_step_13 : decode cX10_step 13 = .ok (.ifCond .eq 32, 3) := by decide +kernel
theorem dX10_step_16 : decode cX10_step 16 = .ok (.aload_n 0, 1) := by decide +kernel
theorem dX10_step_17 : decode cX10_step 17 = .ok (.iload_n 3, 1) := by decide +kernel
theorem dX10_step_18 : decode cX10_step 18 = .ok (.sipush (-10000), 3) := by decide +kernel
theorem dX10_step_21 : decode cX10_step 21 = .ok (.sipush 10000, 3) := by decide +kernel
theorem dX10_step_24 : decode cX10_step 24 = .ok (.invokevirtual 112, 3) := by decide +kernel
theorem dX10_step_27 : decode cX10_step 27 = .ok (.ifCond .eq 18, 3) := by decide +kernel
theorem dX10_step_30 : decode cX10_step 30 = .ok (.aload_n 0, 1) := by decide +kernel
theorem dX10_step_31 : decode cX10_step 31 = .ok (.iload 4, 2) := by decide +kernel
theorem dX10_step_33 : decode cX10_step 33 = .ok (.sipush (-10000), 3) := by decide +kernel
theorem dX10_step_36 : decode cX10_step 36 = .ok (.sipush 10000, 3) := by decide +kernel
theorem dX10_step_39 : decode cX10_step 39 = .ok (.invokevirtual 112, 3) := by decide +kernel
theorem dX10_step_42 : decode cX10_step 42 = .ok (.ifCond .ne 5, 3) := by decide +kernel
theorem dX10_step_45 : decode cX10_step 45 = .ok (.iconst (-1), 1) := by decide +kernel
theorem dX10_step_46 : decode cX10_step 46 = .ok (.ireturn, 1) := by decide +kernel
theorem dX10_step_47 : decode cX10_step 47 = .ok (.aload_n 0, 1) := by decide +kernel
theorem dX10_step_48 : decode cX10_step 48 = .ok (.getfield 32, 3) := by decide +kernel
theorem dX10_step_51 : decode cX10_step 51 = .ok (.iload_n 1, 1) := by decide +kernel
theorem dX10_step_52 : decode cX10_step 52 = .ok (.iaload, 1) := by decide +kernel
theorem dX10_step_53 : decode cX10_step 53 = .ok (.bipush 10, 2) := by decide +kernel
theorem dX10_step_55 : decode cX10_step 55 = .ok (.if_icmp .ne 6, 3) := by decide +kernel
theorem dX10_step_58 : decode cX10_step 58 = .ok (.bipush (-2), 2) := by decide +kernel
theorem dX10_step_60 : decode cX10_step 60 = .ok (.ireturn, 1) := by decide +kernel
theorem dX10_step_61 : decode cX10_step 61 = .ok (.bipush 10, 2) := by decide +kernel
theorem dX10_step_63 : decode cX10_step 63 = .ok (.iload_n 1, 1) := by decide +kernel
theorem dX10_step_64 : decode cX10_step 64 = .ok (.imul, 1) := by decide +kernel
theorem dX10_step_65 : decode cX10_step 65 = .ok (.aload_n 0, 1) := by decide +kernel
theorem dX10_step_66 : decode cX10_step 66 = .ok (.getfield 32, 3) := by decide +kernel
theorem dX10_step_69 : decode cX10_step 69 = .ok (.iload_n 1, 1) := by decide +kernel
theorem dX10_step_70 : decode cX10_step 70 = .ok (.iaload, 1) := by decide +kernel
theorem dX10_step_71 : decode cX10_step 71 = .ok (.iadd, 1) := by decide +kernel
theorem dX10_step_72 : decode cX10_step 72 = .ok (.istore 5, 2) := by decide +kernel
theorem dX10_step_74 : decode cX10_step 74 = .ok (.aload_n 0, 1) := by decide +kernel
theorem dX10_step_75 : decode cX10_step 75 = .ok (.getfield 42, 3) := by decide +kernel
theorem dX10_step_78 : decode cX10_step 78 = .ok (.iload 5, 2) := by decide +kernel
theorem dX10_step_80 : decode cX10_step 80 = .ok (.iload_n 2, 1) := by decide +kernel
theorem dX10_step_81 : decode cX10_step 81 = .ok (.iastore, 1) := by decide +kernel
theorem dX10_step_82 : decode cX10_step 82 = .ok (.aload_n 0, 1) := by decide +kernel
theorem dX10_step_83 : decode cX10_step 83 = .ok (.getfield 45, 3) := by decide +kernel
theorem dX10_step_86 : decode cX10_step 86 = .ok (.iconst 2, 1) := by decide +kernel
theorem dX10_step_87 : decode cX10_step 87 = .ok (.iload 5, 2) := by decide +kernel
theorem dX10_step_89 : decode cX10_step 89 = .ok (.imul, 1) := by decide +kernel
theorem dX10_step_90 : decode cX10_step 90 = .ok (.iload_n 3, 1) := by decide +kernel
theorem dX10_step_91 : decode cX10_step 91 = .ok (.iastore, 1) := by decide +kernel
theorem dX10_step_92 : decode cX10_step 92 = .ok (.aload_n 0, 1) := by decide +kernel
theorem dX10_step_93 : decode cX10_step 93 = .ok (.getfield 45, 3) := by decide +kernel
theorem dX10_step_96 : decode cX10_step 96 = .ok (.iconst 2, 1) := by decide +kernel
theorem dX10_step_97 : decode cX10_step 97 = .ok (.iload 5, 2) := by decide +kernel
theorem dX10_step_99 : decode cX10_step 99 = .ok (.imul, 1) := by decide +kernel
theorem dX10_step_100 : decode cX10_step 100 = .ok (.iconst 1, 1) := by decide +kernel
theorem dX10_step_101 : decode cX10_step 101 = .ok (.iadd, 1) := by decide +kernel
theorem dX10_step_102 : decode cX10_step 102 = .ok (.iload 4, 2) := by decide +kernel
theorem dX10_step_104 : decode cX10_step 104 = .ok (.iastore, 1) := by decide +kernel
theorem dX10_step_105 : decode cX10_step 105 = .ok (.aload_n 0, 1) := by decide +kernel
theorem dX10_step_106 : decode cX10_step 106 = .ok (.getfield 32, 3) := by decide +kernel
theorem dX10_step_109 : decode cX10_step 109 = .ok (.iload_n 1, 1) := by decide +kernel
theorem dX10_step_110 : decode cX10_step 110 = .ok (.dup2, 1) := by decide +kernel
theorem dX10_step_111 : decode cX10_step 111 = .ok (.iaload, 1) := by decide +kernel
theorem dX10_step_112 : decode cX10_step 112 = .ok (.iconst 1, 1) := by decide +kernel
theorem dX10_step_113 : decode cX10_step 113 = .ok (.iadd, 1) := by decide +kernel
theorem dX10_step_114 : decode cX10_step 114 = .ok (.iastore, 1) := by decide +kernel
theorem dX10_step_115 : decode cX10_step 115 = .ok (.aload_n 0, 1) := by decide +kernel
theorem dX10_step_116 : decode cX10_step 116 = .ok (.getfield 32, 3) := by decide +kernel
theorem dX10_step_119 : decode cX10_step 119 = .ok (.iload_n 1, 1) := by decide +kernel
theorem dX10_step_120 : decode cX10_step 120 = .ok (.iaload, 1) := by decide +kernel
theorem dX10_step_121 : decode cX10_step 121 = .ok (.ireturn, 1) := by decide +kernel
set_option maxRecDepth 20000 in
theorem ggX10_isLeftOut_X10_spot : GoodIn wsX10_isLeftOut wsX10_spot := goodIn_r _ [7] (by decide +kernel) (by decide +kernel)
set_option maxRecDepth 20000 in
theorem gX10_isLeftOut_X10_spot : GoodIn wsX10_isLeftOut (wsV RX10 128 RX10 yX10_spot wsX10_spot) := goodIn_app (goodIn_of _ (by decide +kernel)) ggX10_isLeftOut_X10_spot
theorem dX10_isLeftOut_0 : decode cX10_isLeftOut 0 = .ok (.iconst 0, 1) := by decide +kernel
theorem dX10_isLeftOut_1 : decode cX10_isLeftOut 1 = .ok (.istore_n 3, 1) := by decide +kernel
theorem dX10_isLeftOut_2 : decode cX10_isLeftOut 2 = .ok (.iconst 0, 1) := by decide +kernel
theorem dX10_isLeftOut_3 : decode cX10_isLeftOut 3 = .ok (.istore 4, 2) := by decide +kernel
theorem dX10_isLeftOut_5 : decode cX10_isLeftOut 5 = .ok (.iload 4, 2) := by decide +kernel
theorem dX10_isLeftOut_7 : decode cX10_isLeftOut 7 = .ok (.iload_n 2, 1) := by decide +kernel
theorem dX10_isLeftOut_8 : decode cX10_isLeftOut 8 = .ok (.if_icmp .ge 32, 3) := by decide +kernel
theorem dX10_isLeftOut_11 : decode cX10_isLeftOut 11 = .ok (.iload_n 3, 1) := by decide +kernel
theorem dX10_isLeftOut_12 : decode cX10_isLeftOut 12 = .ok (.aload_n 0, 1) := by decide +kernel
theorem dX10_isLeftOut_13 : decode cX10_isLeftOut 13 = .ok (.getfield 35, 3) := by decide +kernel
theorem dX10_isLeftOut_16 : decode cX10_isLeftOut 16 = .ok (.aload_n 0, 1) := by decide +kernel
theorem dX10_isLeftOut_17 : decode cX10_isLeftOut 17 = .ok (.iload_n 1, 1) := by decide +kernel
theorem dX10_isLeftOut_18 : decode cX10_isLeftOut 18 = .ok (.iload 4, 2) := by decide +kernel
theorem dX10_isLeftOut_20 : decode cX10_isLeftOut 20 = .ok (.invokevirtual 128, 3) := by decide +kernel
theorem dX10_isLeftOut_23 : decode cX10_isLeftOut 23 = .ok (.baload, 1) := by decide +kernel
theorem dX10_isLeftOut_24 : decode cX10_isLeftOut 24 = .ok (.ifCond .eq 7, 3) := by decide +kernel
theorem dX10_isLeftOut_27 : decode cX10_isLeftOut 27 = .ok (.iconst 1, 1) := by decide +kernel
theorem dX10_isLeftOut_28 : decode cX10_isLeftOut 28 = .ok (.goto 4, 3) := by decide +kernel
theorem dX10_isLeftOut_31 : decode cX10_isLeftOut 31 = .ok (.iconst 0, 1) := by decide +kernel
theorem dX10_isLeftOut_32 : decode cX10_isLeftOut 32 = .ok (.iadd, 1) := by decide +kernel
theorem dX10_isLeftOut_33 : decode cX10_isLeftOut 33 = .ok (.istore_n 3, 1) := by decide +kernel
theorem dX10_isLeftOut_34 : decode cX10_isLeftOut 34 = .ok (.iinc 4 1, 3) := by decide +kernel
theorem dX10_isLeftOut_37 : decode cX10_isLeftOut 37 = .ok (.goto (-32), 3) := by decide +kernel
theorem dX10_isLeftOut_40 : decode cX10_isLeftOut 40 = .ok (.aload_n 0, 1) := by decide +kernel
theorem dX10_isLeftOut_41 : decode cX10_isLeftOut 41 = .ok (.getfield 16, 3) := by decide +kernel
theorem dX10_isLeftOut_44 : decode cX10_isLeftOut 44 = .ok (.iload_n 1, 1) := by decide +kernel
theorem dX10_isLeftOut_45 : decode cX10_isLeftOut 45 = .ok (.iaload, 1) := by decide +kernel
theorem dX10_isLeftOut_46 : decode cX10_isLeftOut 46 = .ok (.iconst 2, 1) := by decide +kernel
theorem dX10_isLeftOut_47 : decode cX10_isLeftOut 47 = .ok (.if_icmp .ne 12, 3) := by decide +kernel
theorem dX10_isLeftOut_50 : decode cX10_isLeftOut 50 = .ok (.iload_n 3, 1) := by decide +kernel
theorem dX10_isLeftOut_51 : decode cX10_isLeftOut 51 = .ok (.iconst 2, 1) := by decide +kernel
theorem dX10_isLeftOut_52 : decode cX10_isLeftOut 52 = .ok (.if_icmp .ge 7, 3) := by decide +kernel
theorem dX10_isLeftOut_55 : decode cX10_isLeftOut 55 = .ok (.iconst 1, 1) := by decide +kernel
theorem dX10_isLeftOut_56 : decode cX10_isLeftOut 56 = .ok (.goto 4, 3) := by decide +kernel
theorem dX10_isLeftOut_59 : decode cX10_isLeftOut 59 = .ok (.iconst 0, 1) := by decide +kernel
theorem dX10_isLeftOut_60 : decode cX10_isLeftOut 60 = .ok (.ireturn, 1) := by decide +kernel
set_option maxRecDepth 20000 in
theorem ggX10_isCleared_X10_spot : GoodIn wsX10_isCleared wsX10_spot := goodIn_r _ [6] (by decide +kernel) (by decide +kernel)
set_option maxRecDepth 20000 in
theorem gX10_isCleared_X10_spot : GoodIn wsX10_isCleared (wsV RX10 128 RX10 yX10_spot wsX10_spot) := goodIn_app (goodIn_of _ (by decide +kernel)) ggX10_isCleared_X10_spot
set_option maxRecDepth 20000 in
theorem ggX10_isCleared_X10_isLeftOut : GoodIn wsX10_isCleared wsX10_isLeftOut := goodIn_r _ [10, 1, 11, 2, 3, 4, 5, 6, 12, 13, 14, 15, 16, 17, 18, 19, 20, 21, 22, 23, 24, 25, 26, 27, 28, 29, 30, 31, 32, 33, 34, 35, 36, 37, 38, 39, 40, 41, 42, 43, 44] (by decide +kernel) (by decide +kernel)
set_option maxRecDepth 20000 in
theorem gX10_isCleared_X10_isLeftOut : GoodIn wsX10_isCleared (wsV RX10 132 RX10 yX10_isLeftOut wsX10_isLeftOut) := goodIn_app (goodIn_of _ (by decide +kernel)) ggX10_isCleared_X10_isLeftOut
theorem dX10_isCleared_0 : decode cX10_isCleared 0 = .ok (.aload_n 0, 1) := by decide +kernel
theorem dX10_isCleared_1 : decode cX10_isCleared 1 = .ok (.getfield 35, 3) := by decide +kernel
theorem dX10_isCleared_4 : decode cX10_isCleared 4 = .ok (.aload_n 0, 1) := by decide +kernel
theorem dX10_isCleared_5 : decode cX10_isCleared 5 = .ok (.iload_n 1, 1) := by decide +kernel
theorem dX10_isCleared_6 : decode cX10_isCleared 6 = .ok (.iload_n 2, 1) := by decide +kernel
theorem dX10_isCleared_7 : decode cX10_isCleared 7 = .ok (.invokevirtual 128, 3) := by decide +kernel
theorem dX10_isCleared_10 : decode cX10_isCleared 10 = .ok (.baload, 1) := by decide +kernel
theorem dX10_isCleared_11 : decode cX10_isCleared 11 = .ok (.ifCond .eq 16, 3) := by decide +kernel
theorem dX10_isCleared_14 : decode cX10_isCleared 14 = .ok (.aload_n 0, 1) := by decide +kernel
theorem dX10_isCleared_15 : decode cX10_isCleared 15 = .ok (.iload_n 1, 1) := by decide +kernel
theorem dX10_isCleared_16 : decode cX10_isCleared 16 = .ok (.iload_n 2, 1) := by decide +kernel
theorem dX10_isCleared_17 : decode cX10_isCleared 17 = .ok (.invokevirtual 132, 3) := by decide +kernel
theorem dX10_isCleared_20 : decode cX10_isCleared 20 = .ok (.ifCond .ne 7, 3) := by decide +kernel
theorem dX10_isCleared_23 : decode cX10_isCleared 23 = .ok (.iconst 1, 1) := by decide +kernel
theorem dX10_isCleared_24 : decode cX10_isCleared 24 = .ok (.goto 4, 3) := by decide +kernel
theorem dX10_isCleared_27 : decode cX10_isCleared 27 = .ok (.iconst 0, 1) := by decide +kernel
theorem dX10_isCleared_28 : decode cX10_isCleared 28 = .ok (.ireturn, 1) := by decide +kernel
set_option maxRecDepth 20000 in
theorem ggX10_withoutSteps_X10_spot : GoodIn wsX10_withoutSteps wsX10_spot := goodIn_r _ [9] (by decide +kernel) (by decide +kernel)
set_option maxRecDepth 20000 in
theorem gX10_withoutSteps_X10_spot : GoodIn wsX10_withoutSteps (wsV RX10 128 RX10 yX10_spot wsX10_spot) := goodIn_app (goodIn_of _ (by decide +kernel)) ggX10_withoutSteps_X10_spot
theorem dX10_withoutSteps_0 : decode cX10_withoutSteps 0 = .ok (.aload_n 0, 1) := by decide +kernel
theorem dX10_withoutSteps_1 : decode cX10_withoutSteps 1 = .ok (.getfield 39, 3) := by decide +kernel
theorem dX10_withoutSteps_4 : decode cX10_withoutSteps 4 = .ok (.iconst 2, 1) := by decide +kernel
theorem dX10_withoutSteps_5 : decode cX10_withoutSteps 5 = .ok (.aload_n 0, 1) := by decide +kernel
theorem dX10_withoutSteps_6 : decode cX10_withoutSteps 6 = .ok (.iload_n 1, 1) := by decide +kernel
theorem dX10_withoutSteps_7 : decode cX10_withoutSteps 7 = .ok (.iload_n 2, 1) := by decide +kernel
theorem dX10_withoutSteps_8 : decode cX10_withoutSteps 8 = .ok (.invokevirtual 128, 3) := by decide +kernel
theorem dX10_withoutSteps_11 : decode cX10_withoutSteps 11 = .ok (.imul, 1) := by decide +kernel
theorem dX10_withoutSteps_12 : decode cX10_withoutSteps 12 = .ok (.iload_n 3, 1) := by decide +kernel
theorem dX10_withoutSteps_13 : decode cX10_withoutSteps 13 = .ok (.iadd, 1) := by decide +kernel
theorem dX10_withoutSteps_14 : decode cX10_withoutSteps 14 = .ok (.iaload, 1) := by decide +kernel
theorem dX10_withoutSteps_15 : decode cX10_withoutSteps 15 = .ok (.i2l, 1) := by decide +kernel
theorem dX10_withoutSteps_16 : decode cX10_withoutSteps 16 = .ok (.lstore 4, 2) := by decide +kernel
theorem dX10_withoutSteps_18 : decode cX10_withoutSteps 18 = .ok (.bipush 10, 2) := by decide +kernel
theorem dX10_withoutSteps_20 : decode cX10_withoutSteps 20 = .ok (.iload_n 1, 1) := by decide +kernel
theorem dX10_withoutSteps_21 : decode cX10_withoutSteps 21 = .ok (.imul, 1) := by decide +kernel
theorem dX10_withoutSteps_22 : decode cX10_withoutSteps 22 = .ok (.istore 6, 2) := by decide +kernel
theorem dX10_withoutSteps_24 : decode cX10_withoutSteps 24 = .ok (.iload 6, 2) := by decide +kernel
theorem dX10_withoutSteps_26 : decode cX10_withoutSteps 26 = .ok (.bipush 10, 2) := by decide +kernel
theorem dX10_withoutSteps_28 : decode cX10_withoutSteps 28 = .ok (.iload_n 1, 1) := by decide +kernel
theorem dX10_withoutSteps_29 : decode cX10_withoutSteps 29 = .ok (.imul, 1) := by decide +kernel
theorem dX10_withoutSteps_30 : decode cX10_withoutSteps 30 = .ok (.aload_n 0, 1) := by decide +kernel
theorem dX10_withoutSteps_31 : decode cX10_withoutSteps 31 = .ok (.getfield 32, 3) := by decide +kernel
theorem dX10_withoutSteps_34 : decode cX10_withoutSteps 34 = .ok (.iload_n 1, 1) := by decide +kernel
theorem dX10_withoutSteps_35 : decode cX10_withoutSteps 35 = .ok (.iaload, 1) := by decide +kernel
theorem dX10_withoutSteps_36 : decode cX10_withoutSteps 36 = .ok (.iadd, 1) := by decide +kernel
theorem dX10_withoutSteps_37 : decode cX10_withoutSteps 37 = .ok (.if_icmp .ge 41, 3) := by decide +kernel
theorem dX10_withoutSteps_40 : decode cX10_withoutSteps 40 = .ok (.lload 4, 2) := by decide +kernel
theorem dX10_withoutSteps_42 : decode cX10_withoutSteps 42 = .ok (.aload_n 0, 1) := by decide +kernel
theorem dX10_withoutSteps_43 : decode cX10_withoutSteps 43 = .ok (.getfield 42, 3) := by decide +kernel
theorem dX10_withoutSteps_46 : decode cX10_withoutSteps 46 = .ok (.iload 6, 2) := by decide +kernel
theorem dX10_withoutSteps_48 : decode cX10_withoutSteps 48 = .ok (.iaload, 1) := by decide +kernel
theorem dX10_withoutSteps_49 : decode cX10_withoutSteps 49 = .ok (.iload_n 2, 1) := by decide +kernel
theorem dX10_withoutSteps_50 : decode cX10_withoutSteps 50 = .ok (.if_icmp .gt 18, 3) := by decide +kernel
theorem dX10_withoutSteps_53 : decode cX10_withoutSteps 53 = .ok (.aload_n 0, 1) := by decide +kernel
theorem dX10_withoutSteps_54 : decode cX10_withoutSteps 54 = .ok (.getfield 45, 3) := by decide +kernel
theorem dX10_withoutSteps_57 : decode cX10_withoutSteps 57 = .ok (.iconst 2, 1) := by decide +kernel
theorem dX10_withoutSteps_58 : decode cX10_withoutSteps 58 = .ok (.iload 6, 2) := by decide +kernel
theorem dX10_withoutSteps_60 : decode cX10_withoutSteps 60 = .ok (.imul, 1) := by decide +kernel
theorem dX10_withoutSteps_61 : decode cX10_withoutSteps 61 = .ok (.iload_n 3, 1) := by decide +kernel
theorem dX10_withoutSteps_62 : decode cX10_withoutSteps 62 = .ok (.iadd, 1) := by decide +kernel
theorem dX10_withoutSteps_63 : decode cX10_withoutSteps 63 = .ok (.iaload, 1) := by decide +kernel
theorem dX10_withoutSteps_64 : decode cX10_withoutSteps 64 = .ok (.i2l, 1) := by decide +kernel
theorem dX10_withoutSteps_65 : decode cX10_withoutSteps 65 = .ok (.goto 4, 3) := by decide +kernel
theorem dX10_withoutSteps_68 : decode cX10_withoutSteps 68 = .ok (.lconst 0, 1) := by decide +kernel
theorem dX10_withoutSteps_69 : decode cX10_withoutSteps 69 = .ok (.lsub, 1) := by decide +kernel
theorem dX10_withoutSteps_70 : decode cX10_withoutSteps 70 = .ok (.lstore 4, 2) := by decide +kernel
theorem dX10_withoutSteps_72 : decode cX10_withoutSteps 72 = .ok (.iinc 6 1, 3) := by decide +kernel
theorem dX10_withoutSteps_75 : decode cX10_withoutSteps 75 = .ok (.goto (-51), 3) := by decide +kernel
theorem dX10_withoutSteps_78 : decode cX10_withoutSteps 78 = .ok (.lload 4, 2) := by decide +kernel
theorem dX10_withoutSteps_80 : decode cX10_withoutSteps 80 = .ok (.lreturn, 1) := by decide +kernel
set_option maxRecDepth 20000 in
theorem ggX10_meanOf_X10_spot : GoodIn wsX10_meanOf wsX10_spot := goodIn_r _ [7] (by decide +kernel) (by decide +kernel)
set_option maxRecDepth 20000 in
theorem gX10_meanOf_X10_spot : GoodIn wsX10_meanOf (wsV RX10 128 RX10 yX10_spot wsX10_spot) := goodIn_app (goodIn_of _ (by decide +kernel)) ggX10_meanOf_X10_spot
theorem dX10_meanOf_0 : decode cX10_meanOf 0 = .ok (.lconst 0, 1) := by decide +kernel
theorem dX10_meanOf_1 : decode cX10_meanOf 1 = .ok (.lstore 4, 2) := by decide +kernel
theorem dX10_meanOf_3 : decode cX10_meanOf 3 = .ok (.iconst 0, 1) := by decide +kernel
theorem dX10_meanOf_4 : decode cX10_meanOf 4 = .ok (.istore 6, 2) := by decide +kernel
theorem dX10_meanOf_6 : decode cX10_meanOf 6 = .ok (.iload_n 2, 1) := by decide +kernel
theorem dX10_meanOf_7 : decode cX10_meanOf 7 = .ok (.istore 7, 2) := by decide +kernel
theorem dX10_meanOf_9 : decode cX10_meanOf 9 = .ok (.iload 7, 2) := by decide +kernel
theorem dX10_meanOf_11 : decode cX10_meanOf 11 = .ok (.bipush 40, 2) := by decide +kernel
theorem dX10_meanOf_13 : decode cX10_meanOf 13 = .ok (.if_icmp .ge 52, 3) := by decide +kernel
theorem dX10_meanOf_16 : decode cX10_meanOf 16 = .ok (.aload_n 0, 1) := by decide +kernel
theorem dX10_meanOf_17 : decode cX10_meanOf 17 = .ok (.getfield 35, 3) := by decide +kernel
theorem dX10_meanOf_20 : decode cX10_meanOf 20 = .ok (.aload_n 0, 1) := by decide +kernel
theorem dX10_meanOf_21 : decode cX10_meanOf 21 = .ok (.iload_n 1, 1) := by decide +kernel
theorem dX10_meanOf_22 : decode cX10_meanOf 22 = .ok (.iload 7, 2) := by decide +kernel
theorem dX10_meanOf_24 : decode cX10_meanOf 24 = .ok (.invokevirtual 128, 3) := by decide +kernel
theorem dX10_meanOf_27 : decode cX10_meanOf 27 = .ok (.baload, 1) := by decide +kernel
theorem dX10_meanOf_28 : decode cX10_meanOf 28 = .ok (.ifCond .ne 6, 3) := by decide +kernel
theorem dX10_meanOf_31 : decode cX10_meanOf 31 = .ok (.goto 28, 3) := by decide +kernel
theorem dX10_meanOf_34 : decode cX10_meanOf 34 = .ok (.lload 4, 2) := by decide +kernel
theorem dX10_meanOf_36 : decode cX10_meanOf 36 = .ok (.aload_n 0, 1) := by decide +kernel
theorem dX10_meanOf_37 : decode cX10_meanOf 37 = .ok (.getfield 39, 3) := by decide +kernel
theorem dX10_meanOf_40 : decode cX10_meanOf 40 = .ok (.iconst 2, 1) := by decide +kernel
theorem dX10_meanOf_41 : decode cX10_meanOf 41 = .ok (.aload_n 0, 1) := by decide +kernel
theorem dX10_meanOf_42 : decode cX10_meanOf 42 = .ok (.iload_n 1, 1) := by decide +kernel
theorem dX10_meanOf_43 : decode cX10_meanOf 43 = .ok (.iload 7, 2) := by decide +kernel
theorem dX10_meanOf_45 : decode cX10_meanOf 45 = .ok (.invokevirtual 128, 3) := by decide +kernel
theorem dX10_meanOf_48 : decode cX10_meanOf 48 = .ok (.imul, 1) := by decide +kernel
theorem dX10_meanOf_49 : decode cX10_meanOf 49 = .ok (.iload_n 3, 1) := by decide +kernel
theorem dX10_meanOf_50 : decode cX10_meanOf 50 = .ok (.iadd, 1) := by decide +kernel
theorem dX10_meanOf_51 : decode cX10_meanOf 51 = .ok (.iaload, 1) := by decide +kernel
theorem dX10_meanOf_52 : decode cX10_meanOf 52 = .ok (.i2l, 1) := by decide +kernel
theorem dX10_meanOf_53 : decode cX10_meanOf 53 = .ok (.ladd, 1) := by decide +kernel
theorem dX10_meanOf_54 : decode cX10_meanOf 54 = .ok (.lstore 4, 2) := by decide +kernel
theorem dX10_meanOf_56 : decode cX10_meanOf 56 = .ok (.iinc 6 1, 3) := by decide +kernel
theorem dX10_meanOf_59 : decode cX10_meanOf 59 = .ok (.iinc 7 4, 3) := by decide +kernel
theorem dX10_meanOf_62 : decode cX10_meanOf 62 = .ok (.goto (-53), 3) := by decide +kernel
theorem dX10_meanOf_65 : decode cX10_meanOf 65 = .ok (.lload 4, 2) := by decide +kernel
theorem dX10_meanOf_67 : decode cX10_meanOf 67 = .ok (.iload 6, 2) := by decide +kernel
theorem dX10_meanOf_69 : decode cX10_meanOf 69 = .ok (.i2l, 1) := by decide +kernel
theorem dX10_meanOf_70 : decode cX10_meanOf 70 = .ok (.ldiv, 1) := by decide +kernel
theorem dX10_meanOf_71 : decode cX10_meanOf 71 = .ok (.lreturn, 1) := by decide +kernel
set_option maxRecDepth 20000 in
theorem ggX10_clear_X10_withoutSteps : GoodIn wsX10_clear wsX10_withoutSteps := goodIn_r _ [8, 9, 10, 11, 12, 13, 14, 15, 7, 16, 26, 27, 28, 29, 30, 31, 32, 33, 34, 35, 36, 37, 38, 39, 40, 41, 42, 43, 44, 45, 46, 47, 48, 49, 50, 51, 52, 53, 54, 55, 56, 57, 58] (by decide +kernel) (by decide +kernel)
set_option maxRecDepth 20000 in
theorem gX10_clear_X10_withoutSteps : GoodIn wsX10_clear (wsV RX10 136 RX10 yX10_withoutSteps wsX10_withoutSteps) := goodIn_app (goodIn_of _ (by decide +kernel)) ggX10_clear_X10_withoutSteps
set_option maxRecDepth 20000 in
theorem ggX10_clear_X10_hasAntenna : GoodIn wsX10_clear wsX10_hasAntenna := goodIn_r _ [20, 3, 26, 27, 28, 29, 30, 31, 32, 33, 34, 35, 36, 37, 38, 39, 40, 41, 42, 43, 44, 45, 46, 47, 48, 49, 50, 51, 52, 53, 54, 55, 56, 57, 58] (by decide +kernel) (by decide +kernel)
set_option maxRecDepth 20000 in
theorem gX10_clear_X10_hasAntenna : GoodIn wsX10_clear (wsV RX10 123 RX10 yX10_hasAntenna wsX10_hasAntenna) := goodIn_app (goodIn_of _ (by decide +kernel)) ggX10_clear_X10_hasAntenna
set_option maxRecDepth 20000 in
theorem ggX10_clear_X10_meanOf : GoodIn wsX10_clear wsX10_meanOf := goodIn_r _ [24, 25, 9, 13, 14, 15, 7, 16, 26, 27, 28, 29, 30, 31, 32, 33, 34, 35, 36, 37, 38, 39, 40, 41, 42, 43, 44, 45, 46, 47, 48, 49, 50, 51, 52, 53, 54, 55, 56, 57, 58] (by decide +kernel) (by decide +kernel)
set_option maxRecDepth 20000 in
theorem gX10_clear_X10_meanOf : GoodIn wsX10_clear (wsV RX10 140 RX10 yX10_meanOf wsX10_meanOf) := goodIn_app (goodIn_of _ (by decide +kernel)) ggX10_clear_X10_meanOf
theorem dX10_clear_0 : decode cX10_clear 0 = .ok (.aload_n 0, 1) := by decide +kernel
theorem dX10_clear_1 : decode cX10_clear 1 = .ok (.iload_n 1, 1) := by decide +kernel
theorem dX10_clear_2 : decode cX10_clear 2 = .ok (.iload_n 2, 1) := by decide +kernel
theorem dX10_clear_3 : decode cX10_clear 3 = .ok (.iload_n 3, 1) := by decide +kernel
theorem dX10_clear_4 : decode cX10_clear 4 = .ok (.invokevirtual 136, 3) := by decide +kernel
theorem dX10_clear_7 : decode cX10_clear 7 = .ok (.lstore 4, 2) := by decide +kernel
theorem dX10_clear_9 : decode cX10_clear 9 = .ok (.aload_n 0, 1) := by decide +kernel
theorem dX10_clear_10 : decode cX10_clear 10 = .ok (.iload_n 1, 1) := by decide +kernel
theorem dX10_clear_11 : decode cX10_clear 11 = .ok (.invokevirtual 123, 3) := by decide +kernel
theorem dX10_clear_14 : decode cX10_clear 14 = .ok (.ifCond .eq 25, 3) := by decide +kernel
theorem dX10_clear_17 : decode cX10_clear 17 = .ok (.iload_n 2, 1) := by decide +kernel
theorem dX10_clear_18 : decode cX10_clear 18 = .ok (.aload_n 0, 1) := by decide +kernel
theorem dX10_clear_19 : decode cX10_clear 19 = .ok (.getfield 29, 3) := by decide +kernel
theorem dX10_clear_22 : decode cX10_clear 22 = .ok (.iload_n 1, 1) := by decide +kernel
theorem dX10_clear_23 : decode cX10_clear 23 = .ok (.iaload, 1) := by decide +kernel
theorem dX10_clear_24 : decode cX10_clear 24 = .ok (.if_icmp .lt 15, 3) := by decide +kernel
theorem dX10_clear_27 : decode cX10_clear 27 = .ok (.lload 4, 2) := by decide +kernel
theorem dX10_clear_29 : decode cX10_clear 29 = .ok (.aload_n 0, 1) := by decide +kernel
theorem dX10_clear_30 : decode cX10_clear 30 = .ok (.getfield 26, 3) := by decide +kernel
theorem dX10_clear_33 : decode cX10_clear 33 = .ok (.iload_n 1, 1) := by decide +kernel
theorem dX10_clear_34 : decode cX10_clear 34 = .ok (.iaload, 1) := by decide +kernel
theorem dX10_clear_35 : decode cX10_clear 35 = .ok (.i2l, 1) := by decide +kernel
theorem dX10_clear_36 : decode cX10_clear 36 = .ok (.lsub, 1) := by decide +kernel
theorem dX10_clear_37 : decode cX10_clear 37 = .ok (.lstore 4, 2) := by decide +kernel
theorem dX10_clear_39 : decode cX10_clear 39 = .ok (.aload_n 0, 1) := by decide +kernel
theorem dX10_clear_40 : decode cX10_clear 40 = .ok (.getfield 16, 3) := by decide +kernel
theorem dX10_clear_43 : decode cX10_clear 43 = .ok (.iload_n 1, 1) := by decide +kernel
theorem dX10_clear_44 : decode cX10_clear 44 = .ok (.iaload, 1) := by decide +kernel
theorem dX10_clear_45 : decode cX10_clear 45 = .ok (.iconst 3, 1) := by decide +kernel
theorem dX10_clear_46 : decode cX10_clear 46 = .ok (.if_icmp .ne 18, 3) := by decide +kernel
theorem dX10_clear_49 : decode cX10_clear 49 = .ok (.lload 4, 2) := by decide +kernel
theorem dX10_clear_51 : decode cX10_clear 51 = .ok (.aload_n 0, 1) := by decide +kernel
theorem dX10_clear_52 : decode cX10_clear 52 = .ok (.iload_n 1, 1) := by decide +kernel
theorem dX10_clear_53 : decode cX10_clear 53 = .ok (.iload_n 2, 1) := by decide +kernel
theorem dX10_clear_54 : decode cX10_clear 54 = .ok (.iconst 4, 1) := by decide +kernel
theorem dX10_clear_55 : decode cX10_clear 55 = .ok (.irem, 1) := by decide +kernel
theorem dX10_clear_56 : decode cX10_clear 56 = .ok (.iload_n 3, 1) := by decide +kernel
theorem dX10_clear_57 : decode cX10_clear 57 = .ok (.invokevirtual 140, 3) := by decide +kernel
theorem dX10_clear_60 : decode cX10_clear 60 = .ok (.lsub, 1) := by decide +kernel
theorem dX10_clear_61 : decode cX10_clear 61 = .ok (.goto 5, 3) := by decide +kernel
theorem dX10_clear_64 : decode cX10_clear 64 = .ok (.lload 4, 2) := by decide +kernel
theorem dX10_clear_66 : decode cX10_clear 66 = .ok (.lreturn, 1) := by decide +kernel
set_option maxRecDepth 20000 in
theorem ggX10_cleared_X10_isMark : GoodIn wsX10_cleared wsX10_isMark := goodIn_r _ [6, 7, 8, 9, 10, 5, 11, 56, 57, 58, 59, 60, 61, 62, 63, 64, 65, 66, 67, 68, 69, 70, 71, 72, 73, 74, 75, 76, 77, 78, 79, 80, 81, 82, 83, 84, 85, 86, 87, 88] (by decide +kernel) (by decide +kernel)
set_option maxRecDepth 20000 in
theorem gX10_cleared_X10_isMark : GoodIn wsX10_cleared (wsV RX10 116 RX10 yX10_isMark wsX10_isMark) := goodIn_app (goodIn_of _ (by decide +kernel)) ggX10_cleared_X10_isMark
set_option maxRecDepth 20000 in
theorem ggX10_cleared_X10_isEpoch : GoodIn wsX10_cleared wsX10_isEpoch := goodIn_r _ [15, 8, 9, 10, 5, 11] (by decide +kernel) (by decide +kernel)
set_option maxRecDepth 20000 in
theorem gX10_cleared_X10_isEpoch : GoodIn wsX10_cleared (wsV RX10 120 RX10 yX10_isEpoch wsX10_isEpoch) := goodIn_app (goodIn_of _ (by decide +kernel)) ggX10_cleared_X10_isEpoch
set_option maxRecDepth 20000 in
theorem ggX10_cleared_X10_isSide : GoodIn wsX10_cleared wsX10_isSide := goodIn_r _ [19] (by decide +kernel) (by decide +kernel)
set_option maxRecDepth 20000 in
theorem gX10_cleared_X10_isSide : GoodIn wsX10_cleared (wsV RX10 143 RX10 yX10_isSide wsX10_isSide) := goodIn_app (goodIn_of _ (by decide +kernel)) ggX10_cleared_X10_isSide
set_option maxRecDepth 20000 in
theorem ggX10_cleared_X10_isCleared : GoodIn wsX10_cleared wsX10_isCleared := goodIn_r _ [23, 24, 25, 26, 27, 5, 28, 29, 30, 31, 32, 33, 56, 57, 58, 59, 60, 61, 62, 63, 64, 65, 66, 67, 68, 69, 70, 71, 72, 73, 74, 75, 76, 77, 78, 79, 80, 81, 82, 83, 84, 85, 86, 87, 88] (by decide +kernel) (by decide +kernel)
set_option maxRecDepth 20000 in
theorem gX10_cleared_X10_isCleared : GoodIn wsX10_cleared (wsV RX10 146 RX10 yX10_isCleared wsX10_isCleared) := goodIn_app (goodIn_of _ (by decide +kernel)) ggX10_cleared_X10_isCleared
set_option maxRecDepth 20000 in
theorem ggX10_cleared_X10_clear : GoodIn wsX10_cleared wsX10_clear := goodIn_r _ [37, 38, 39, 33, 40, 41, 42, 5, 43, 44, 45, 46, 47, 25, 26, 27, 28, 48, 49, 50, 51, 52, 53, 54, 55, 24, 56, 57, 58, 59, 60, 61, 62, 63, 64, 65, 66, 67, 68, 69, 70, 71, 72, 73, 74, 75, 76, 77, 78, 79, 80, 81, 82, 83, 84, 85, 86, 87, 88] (by decide +kernel) (by decide +kernel)
set_option maxRecDepth 20000 in
theorem gX10_cleared_X10_clear : GoodIn wsX10_cleared (wsV RX10 149 RX10 yX10_clear wsX10_clear) := goodIn_app (goodIn_of _ (by decide +kernel)) ggX10_cleared_X10_clear
theorem dX10_cleared_0 : decode cX10_cleared 0 = .ok (.aload_n 0, 1) := by decide +kernel
theorem dX10_cleared_1 : decode cX10_cleared 1 = .ok (.aload_n 0, 1) := by decide +kernel
theorem dX10_cleared_2 : decode cX10_cleared 2 = .ok (.iload_n 1, 1) := by decide +kernel
theorem dX10_cleared_3 : decode cX10_cleared 3 = .ok (.invokevirtual 116, 3) := by decide +kernel
theorem dX10_cleared_6 : decode cX10_cleared 6 = .ok (.ifCond .eq 19, 3) := by decide +kernel
theorem dX10_cleared_9 : decode cX10_cleared 9 = .ok (.aload_n 0, 1) := by decide +kernel
theorem dX10_cleared_10 : decode cX10_cleared 10 = .ok (.iload_n 2, 1) := by decide +kernel
theorem dX10_cleared_11 : decode cX10_cleared 11 = .ok (.invokevirtual 120, 3) := by decide +kernel
theorem dX10_cleared_14 : decode cX10_cleared 14 = .ok (.ifCond .eq 11, 3) := by decide +kernel
theorem dX10_cleared_17 : decode cX10_cleared 17 = .ok (.aload_n 0, 1) := by decide +kernel
