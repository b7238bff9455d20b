def wsX3_keep_r2 : List Cond := [Cond.fieldLink RX3 95 "TollRulesModel" "failure" "I", Cond.methodLink RX3 146 yX3_gives, Cond.instanceMethod yX3_gives, Cond.selects RX3 yX3_gives yX3_gives, Cond.code yX3_gives cX3_gives 6 (some .boolean), Cond.fieldLink RX3 92 "TollRulesModel" "waiting" "I", Cond.fieldLink RX3 40 "TollRulesModel" "waitRule" "[I", Cond.fieldLink RX3 22 "TollRulesModel" "kind" "[I", Cond.fieldLink RX3 43 "TollRulesModel" "waitValue" "[I", Cond.methodLink RX3 105 yX3_begins, Cond.instanceMethod yX3_begins, Cond.selects RX3 yX3_begins yX3_begins, Cond.code yX3_begins cX3_begins 3 (some .boolean), Cond.fieldLink RX3 89 "TollRulesModel" "stepsEver" "I", Cond.fieldLink RX3 46 "TollRulesModel" "waitPhase" "[I", Cond.methodLink RX3 85 yX3_fails, Cond.instanceMethod yX3_fails, Cond.selects RX3 yX3_fails yX3_fails, Cond.code yX3_fails cX3_fails 3 none, Cond.fieldLink RX3 98 "TollRulesModel" "failureAt" "I", Cond.methodLink RX3 115 yX3_recovers, Cond.instanceMethod yX3_recovers, Cond.selects RX3 yX3_recovers yX3_recovers, Cond.code yX3_recovers cX3_recovers 4 none]
def wsX3_keep_r3 : List Cond := [Cond.fieldLink RX3 112 "TollRulesModel" "elses" "I", Cond.fieldLink RX3 28 "TollRulesModel" "second" "[I", Cond.methodLink RX3 118 yX3_asks, Cond.static yX3_asks, Cond.code yX3_asks cX3_asks 1 (some .boolean), Cond.methodLink RX3 121 yX3_goesOn, Cond.instanceMethod yX3_goesOn, Cond.selects RX3 yX3_goesOn yX3_goesOn, Cond.code yX3_goesOn cX3_goesOn 9 (some .boolean), Cond.fieldLink RX3 25 "TollRulesModel" "first" "[I", Cond.fieldLink RX3 49 "TollRulesModel" "waitHad" "[I", Cond.methodLink RX3 124 yX3_given, Cond.instanceMethod yX3_given, Cond.selects RX3 yX3_given yX3_given, Cond.code yX3_given cX3_given 4 (some .int), Cond.fieldLink RX3 31 "TollRulesModel" "kept" "[I", Cond.fieldLink RX3 7 "TollRulesModel" "places" "[I", Cond.fieldLink RX3 34 "TollRulesModel" "keptRow" "[I", Cond.fieldLink RX3 37 "TollRulesModel" "own" "[I", Cond.methodLink RX3 101 yX3_itemAt, Cond.instanceMethod yX3_itemAt, Cond.selects RX3 yX3_itemAt yX3_itemAt, Cond.code yX3_itemAt cX3_itemAt 4 (some .int), Cond.methodLink RX3 78 yX3_newRow]
def wsX3_keep_r4 : List Cond := [Cond.instanceMethod yX3_newRow, Cond.selects RX3 yX3_newRow yX3_newRow, Cond.code yX3_newRow cX3_newRow 4 (some .int), Cond.methodLink RX3 74 yX3_isHeld, Cond.instanceMethod yX3_isHeld, Cond.selects RX3 yX3_isHeld yX3_isHeld, Cond.code yX3_isHeld cX3_isHeld 4 (some .boolean), Cond.methodLink RX3 149 yX3_ends, Cond.instanceMethod yX3_ends, Cond.selects RX3 yX3_ends yX3_ends, Cond.code yX3_ends cX3_ends 2 (some .int), Cond.fieldLink RX3 128 "TollRulesModel" "stepsTold" "I", Cond.methodLink RX3 131 yX3_failed, Cond.instanceMethod yX3_failed, Cond.selects RX3 yX3_failed yX3_failed, Cond.code yX3_failed cX3_failed 4 (some .int), Cond.fieldLink RX3 134 "TollRulesModel" "failedKind" "I", Cond.fieldLink RX3 52 "TollRulesModel" "failedRule" "I", Cond.fieldLink RX3 137 "TollRulesModel" "failedMany" "I"]
def wsX3_keep : List Cond := .code yX3_keep cX3_keep 7 (some .int) :: ((wsX3_keep_r1 ++ (wsX3_keep_r2 ++ (wsX3_keep_r3 ++ wsX3_keep_r4))) ++ wsX30)
def wsX3_order_r1 : List Cond := [Cond.fieldLink RX3 13 "TollRulesModel" "rowOf" "[I", Cond.fieldLink RX3 16 "TollRulesModel" "size" "[I", Cond.fieldLink RX3 56 "TollRulesModel" "keys" "[I", Cond.fieldLink RX3 62 "TollRulesModel" "had" "[I", Cond.fieldLink RX3 19 "TollRulesModel" "item" "[I", Cond.methodLink RX3 140 yX3_isRule, Cond.instanceMethod yX3_isRule, Cond.selects RX3 yX3_isRule yX3_isRule, Cond.initialized RX3, Cond.code yX3_isRule cX3_isRule 2 (some .boolean), Cond.fieldLink RX3 65 "TollRulesModel" "rules" "I", Cond.methodLink RX3 68 yX3_in, Cond.static yX3_in, Cond.code yX3_in cX3_in 3 (some .boolean), Cond.methodLink RX3 155 yX3_asksEach, Cond.instanceMethod yX3_asksEach, Cond.selects RX3 yX3_asksEach yX3_asksEach, Cond.code yX3_asksEach cX3_asksEach 4 (some .boolean), Cond.fieldLink RX3 109 "TollRulesModel" "handed" "I", Cond.methodLink RX3 143 yX3_startsCall, Cond.instanceMethod yX3_startsCall, Cond.selects RX3 yX3_startsCall yX3_startsCall, Cond.code yX3_startsCall cX3_startsCall 1 none, Cond.fieldLink RX3 82 "TollRulesModel" "steps" "I"]
def wsX3_order_r2 : List Cond := [Cond.fieldLink RX3 95 "TollRulesModel" "failure" "I", Cond.methodLink RX3 146 yX3_gives, Cond.instanceMethod yX3_gives, Cond.selects RX3 yX3_gives yX3_gives, Cond.code yX3_gives cX3_gives 6 (some .boolean), Cond.fieldLink RX3 92 "TollRulesModel" "waiting" "I", Cond.fieldLink RX3 40 "TollRulesModel" "waitRule" "[I", Cond.fieldLink RX3 22 "TollRulesModel" "kind" "[I", Cond.fieldLink RX3 43 "TollRulesModel" "waitValue" "[I", Cond.methodLink RX3 105 yX3_begins, Cond.instanceMethod yX3_begins, Cond.selects RX3 yX3_begins yX3_begins, Cond.code yX3_begins cX3_begins 3 (some .boolean), Cond.fieldLink RX3 89 "TollRulesModel" "stepsEver" "I", Cond.fieldLink RX3 46 "TollRulesModel" "waitPhase" "[I", Cond.methodLink RX3 85 yX3_fails, Cond.instanceMethod yX3_fails, Cond.selects RX3 yX3_fails yX3_fails, Cond.code yX3_fails cX3_fails 3 none, Cond.fieldLink RX3 98 "TollRulesModel" "failureAt" "I", Cond.methodLink RX3 115 yX3_recovers, Cond.instanceMethod yX3_recovers, Cond.selects RX3 yX3_recovers yX3_recovers, Cond.code yX3_recovers cX3_recovers 4 none]
def wsX3_order_r3 : List Cond := [Cond.fieldLink RX3 112 "TollRulesModel" "elses" "I", Cond.fieldLink RX3 28 "TollRulesModel" "second" "[I", Cond.methodLink RX3 118 yX3_asks, Cond.static yX3_asks, Cond.code yX3_asks cX3_asks 1 (some .boolean), Cond.methodLink RX3 121 yX3_goesOn, Cond.instanceMethod yX3_goesOn, Cond.selects RX3 yX3_goesOn yX3_goesOn, Cond.code yX3_goesOn cX3_goesOn 9 (some .boolean), Cond.fieldLink RX3 25 "TollRulesModel" "first" "[I", Cond.fieldLink RX3 49 "TollRulesModel" "waitHad" "[I", Cond.methodLink RX3 124 yX3_given, Cond.instanceMethod yX3_given, Cond.selects RX3 yX3_given yX3_given, Cond.code yX3_given cX3_given 4 (some .int), Cond.fieldLink RX3 31 "TollRulesModel" "kept" "[I", Cond.fieldLink RX3 7 "TollRulesModel" "places" "[I", Cond.fieldLink RX3 34 "TollRulesModel" "keptRow" "[I", Cond.fieldLink RX3 37 "TollRulesModel" "own" "[I", Cond.methodLink RX3 101 yX3_itemAt, Cond.instanceMethod yX3_itemAt, Cond.selects RX3 yX3_itemAt yX3_itemAt, Cond.code yX3_itemAt cX3_itemAt 4 (some .int), Cond.methodLink RX3 149 yX3_ends]
def wsX3_order_r4 : List Cond := [Cond.instanceMethod yX3_ends, Cond.selects RX3 yX3_ends yX3_ends, Cond.code yX3_ends cX3_ends 2 (some .int), Cond.fieldLink RX3 128 "TollRulesModel" "stepsTold" "I", Cond.methodLink RX3 131 yX3_failed, Cond.instanceMethod yX3_failed, Cond.selects RX3 yX3_failed yX3_failed, Cond.code yX3_failed cX3_failed 4 (some .int), Cond.fieldLink RX3 134 "TollRulesModel" "failedKind" "I", Cond.fieldLink RX3 52 "TollRulesModel" "failedRule" "I", Cond.fieldLink RX3 137 "TollRulesModel" "failedMany" "I"]
def wsX3_order : List Cond := .code yX3_order cX3_order 8 (some .int) :: ((wsX3_order_r1 ++ (wsX3_order_r2 ++ (wsX3_order_r3 ++ wsX3_order_r4))) ++ wsX30)
def wsX3_fold : List Cond := .code yX3_fold cX3_fold 8 (some .int) :: ([.fieldLink RX3 13 "TollRulesModel" "rowOf" "[I", .fieldLink RX3 16 "TollRulesModel" "size" "[I", .fieldLink RX3 19 "TollRulesModel" "item" "[I", .fieldLink RX3 152 "TollRulesModel" "result" "I", .methodLink RX3 68 yX3_in, .static yX3_in, .initialized RX3, .code yX3_in cX3_in 3 (some .boolean), .methodLink RX3 131 yX3_failed, .instanceMethod yX3_failed, .selects RX3 yX3_failed yX3_failed, .code yX3_failed cX3_failed 4 (some .int), .fieldLink RX3 134 "TollRulesModel" "failedKind" "I", .fieldLink RX3 52 "TollRulesModel" "failedRule" "I", .fieldLink RX3 137 "TollRulesModel" "failedMany" "I"] ++ wsX30)
def wsX3_until_r1 : List Cond := [Cond.fieldLink RX3 109 "TollRulesModel" "handed" "I", Cond.fieldLink RX3 95 "TollRulesModel" "failure" "I", Cond.fieldLink RX3 152 "TollRulesModel" "result" "I", Cond.methodLink RX3 140 yX3_isRule, Cond.instanceMethod yX3_isRule, Cond.selects RX3 yX3_isRule yX3_isRule, Cond.initialized RX3, Cond.code yX3_isRule cX3_isRule 2 (some .boolean), Cond.fieldLink RX3 65 "TollRulesModel" "rules" "I", Cond.methodLink RX3 68 yX3_in, Cond.static yX3_in, Cond.code yX3_in cX3_in 3 (some .boolean), Cond.methodLink RX3 143 yX3_startsCall, Cond.instanceMethod yX3_startsCall, Cond.selects RX3 yX3_startsCall yX3_startsCall, Cond.code yX3_startsCall cX3_startsCall 1 none, Cond.fieldLink RX3 82 "TollRulesModel" "steps" "I", Cond.methodLink RX3 146 yX3_gives, Cond.instanceMethod yX3_gives, Cond.selects RX3 yX3_gives yX3_gives, Cond.code yX3_gives cX3_gives 6 (some .boolean), Cond.fieldLink RX3 92 "TollRulesModel" "waiting" "I", Cond.fieldLink RX3 40 "TollRulesModel" "waitRule" "[I", Cond.fieldLink RX3 22 "TollRulesModel" "kind" "[I"]
def wsX3_until_r2 : List Cond := [Cond.fieldLink RX3 43 "TollRulesModel" "waitValue" "[I", Cond.methodLink RX3 105 yX3_begins, Cond.instanceMethod yX3_begins, Cond.selects RX3 yX3_begins yX3_begins, Cond.code yX3_begins cX3_begins 3 (some .boolean), Cond.fieldLink RX3 89 "TollRulesModel" "stepsEver" "I", Cond.fieldLink RX3 46 "TollRulesModel" "waitPhase" "[I", Cond.methodLink RX3 85 yX3_fails, Cond.instanceMethod yX3_fails, Cond.selects RX3 yX3_fails yX3_fails, Cond.code yX3_fails cX3_fails 3 none, Cond.fieldLink RX3 98 "TollRulesModel" "failureAt" "I", Cond.methodLink RX3 115 yX3_recovers, Cond.instanceMethod yX3_recovers, Cond.selects RX3 yX3_recovers yX3_recovers, Cond.code yX3_recovers cX3_recovers 4 none, Cond.fieldLink RX3 112 "TollRulesModel" "elses" "I", Cond.fieldLink RX3 28 "TollRulesModel" "second" "[I", Cond.methodLink RX3 118 yX3_asks, Cond.static yX3_asks, Cond.code yX3_asks cX3_asks 1 (some .boolean), Cond.methodLink RX3 121 yX3_goesOn, Cond.instanceMethod yX3_goesOn, Cond.selects RX3 yX3_goesOn yX3_goesOn]
def wsX3_until_r3 : List Cond := [Cond.code yX3_goesOn cX3_goesOn 9 (some .boolean), Cond.fieldLink RX3 25 "TollRulesModel" "first" "[I", Cond.fieldLink RX3 49 "TollRulesModel" "waitHad" "[I", Cond.methodLink RX3 124 yX3_given, Cond.instanceMethod yX3_given, Cond.selects RX3 yX3_given yX3_given, Cond.code yX3_given cX3_given 4 (some .int), Cond.fieldLink RX3 31 "TollRulesModel" "kept" "[I", Cond.fieldLink RX3 7 "TollRulesModel" "places" "[I", Cond.fieldLink RX3 34 "TollRulesModel" "keptRow" "[I", Cond.fieldLink RX3 13 "TollRulesModel" "rowOf" "[I", Cond.fieldLink RX3 37 "TollRulesModel" "own" "[I", Cond.methodLink RX3 101 yX3_itemAt, Cond.instanceMethod yX3_itemAt, Cond.selects RX3 yX3_itemAt yX3_itemAt, Cond.code yX3_itemAt cX3_itemAt 4 (some .int), Cond.fieldLink RX3 16 "TollRulesModel" "size" "[I", Cond.fieldLink RX3 19 "TollRulesModel" "item" "[I", Cond.methodLink RX3 149 yX3_ends, Cond.instanceMethod yX3_ends, Cond.selects RX3 yX3_ends yX3_ends, Cond.code yX3_ends cX3_ends 2 (some .int), Cond.fieldLink RX3 128 "TollRulesModel" "stepsTold" "I", Cond.methodLink RX3 131 yX3_failed]
def wsX3_until_r4 : List Cond := [Cond.instanceMethod yX3_failed, Cond.selects RX3 yX3_failed yX3_failed, Cond.code yX3_failed cX3_failed 4 (some .int), Cond.fieldLink RX3 134 "TollRulesModel" "failedKind" "I", Cond.fieldLink RX3 52 "TollRulesModel" "failedRule" "I", Cond.fieldLink RX3 137 "TollRulesModel" "failedMany" "I"]
def wsX3_until : List Cond := .code yX3_until cX3_until 8 (some .int) :: ((wsX3_until_r1 ++ (wsX3_until_r2 ++ (wsX3_until_r3 ++ wsX3_until_r4))) ++ wsX30)
def wsX3_result : List Cond := .code yX3_result cX3_result 1 (some .int) :: ([.fieldLink RX3 152 "TollRulesModel" "result" "I"] ++ wsX30)
def wsX3_steps : List Cond := .code yX3_steps cX3_steps 1 (some .int) :: ([.fieldLink RX3 128 "TollRulesModel" "stepsTold" "I"] ++ wsX30)
def wsX3_failed_ : List Cond := .code yX3_failed_ cX3_failed_ 2 (some .int) :: ([.fieldLink RX3 134 "TollRulesModel" "failedKind" "I", .fieldLink RX3 52 "TollRulesModel" "failedRule" "I"] ++ wsX30)
def wsX3_count : List Cond := .code yX3_count cX3_count 4 (some .int) :: ([.fieldLink RX3 13 "TollRulesModel" "rowOf" "[I", .fieldLink RX3 65 "TollRulesModel" "rules" "I", .fieldLink RX3 89 "TollRulesModel" "stepsEver" "I", .fieldLink RX3 137 "TollRulesModel" "failedMany" "I", .fieldLink RX3 112 "TollRulesModel" "elses" "I"] ++ wsX30)
def wsJ9_max_7cf53 : List Cond := .code yJ9_max_7cf53 cJ9_max_7cf53 2 (some .int) :: ([])
def wsJ9_min_7cf53 : List Cond := .code yJ9_min_7cf53 cJ9_min_7cf53 2 (some .int) :: ([])
def wsL_law_r1 : List Cond := [Cond.classLink RL 7 RX2, Cond.instantiable RX2 16, Cond.initialized RX2, Cond.classLink RL 10 RX3, Cond.instantiable RX3 30, Cond.initialized RX3, Cond.methodLink RL 9 yX2_init, Cond.instanceMethod yX2_init, Cond.code yX2_init cX2_init 1 none, Cond.methodLink RX2 3 objectInit, Cond.instanceMethod objectInit, Cond.code objectInit ⟨#[0xb1]⟩ 1 none, Cond.arrayClass .int, Cond.fieldLink RX2 11 "TollRules" "places" "[I", Cond.classLink RX2 15 RX0, Cond.fieldLink RX2 17 "TollRules" "rows" "[LTollRules$Row;", Cond.classLink RX2 21 RX1, Cond.fieldLink RX2 23 "TollRules" "rules" "[LTollRules$Rule;", Cond.fieldLink RX2 27 "TollRules" "rulesMade" "I", Cond.fieldLink RX2 31 "TollRules" "moved" "[I", Cond.fieldLink RX2 34 "TollRules" "keys" "[I", Cond.fieldLink RX2 37 "TollRules" "origins" "[I", Cond.fieldLink RX2 40 "TollRules" "refusal" "I", Cond.fieldLink RX2 43 "TollRules" "refusedRule" "I"]
def wsL_law_r2 : List Cond := [Cond.fieldLink RX2 46 "TollRules" "latestResult" "I", Cond.fieldLink RX2 49 "TollRules" "latestSteps" "I", Cond.fieldLink RX2 52 "TollRules" "stepsInAll" "I", Cond.fieldLink RX2 55 "TollRules" "failedKind" "I", Cond.fieldLink RX2 58 "TollRules" "failedRule" "I", Cond.fieldLink RX2 61 "TollRules" "failedCalls" "I", Cond.fieldLink RX2 64 "TollRules" "otherWays" "I", Cond.methodLink RL 12 yX3_init, Cond.instanceMethod yX3_init, Cond.code yX3_init cX3_init 1 none, Cond.methodLink RX3 1 objectInit, Cond.fieldLink RX3 7 "TollRulesModel" "places" "[I", Cond.fieldLink RX3 13 "TollRulesModel" "rowOf" "[I", Cond.fieldLink RX3 16 "TollRulesModel" "size" "[I", Cond.fieldLink RX3 19 "TollRulesModel" "item" "[I", Cond.fieldLink RX3 22 "TollRulesModel" "kind" "[I", Cond.fieldLink RX3 25 "TollRulesModel" "first" "[I", Cond.fieldLink RX3 28 "TollRulesModel" "second" "[I", Cond.fieldLink RX3 31 "TollRulesModel" "kept" "[I", Cond.fieldLink RX3 34 "TollRulesModel" "keptRow" "[I", Cond.fieldLink RX3 37 "TollRulesModel" "own" "[I", Cond.fieldLink RX3 40 "TollRulesModel" "waitRule" "[I", Cond.fieldLink RX3 43 "TollRulesModel" "waitValue" "[I", Cond.fieldLink RX3 46 "TollRulesModel" "waitPhase" "[I"]
def wsL_law_r3 : List Cond := [Cond.fieldLink RX3 49 "TollRulesModel" "waitHad" "[I", Cond.fieldLink RX3 52 "TollRulesModel" "failedRule" "I", Cond.fieldLink RX3 56 "TollRulesModel" "keys" "[I", Cond.fieldLink RX3 59 "TollRulesModel" "from" "[I", Cond.fieldLink RX3 62 "TollRulesModel" "had" "[I", Cond.fieldLink RX3 65 "TollRulesModel" "rules" "I", Cond.methodLink RL 13 yX2_place, Cond.instanceMethod yX2_place, Cond.selects RX2 yX2_place yX2_place, Cond.code yX2_place cX2_place 4 (some .long), Cond.constantLong RX2 71 (-9223372036854775808), Cond.methodLink RX2 67 yX2_isPlace, Cond.static yX2_isPlace, Cond.code yX2_isPlace cX2_isPlace 1 (some .boolean), Cond.methodLink RL 17 yX3_place, Cond.instanceMethod yX3_place, Cond.selects RX3 yX3_place yX3_place, Cond.code yX3_place cX3_place 4 (some .long), Cond.constantLong RX3 72 (-9223372036854775808), Cond.methodLink RX3 68 yX3_in, Cond.static yX3_in, Cond.code yX3_in cX3_in 3 (some .boolean), Cond.methodLink RL 18 yX2_has, Cond.instanceMethod yX2_has]
def wsL_law_r4 : List Cond := [Cond.selects RX2 yX2_has yX2_has, Cond.code yX2_has cX2_has 2 (some .long), Cond.methodLink RL 22 yX3_has, Cond.instanceMethod yX3_has, Cond.selects RX3 yX3_has yX3_has, Cond.code yX3_has cX3_has 2 (some .long), Cond.methodLink RL 23 yX2_row, Cond.instanceMethod yX2_row, Cond.selects RX2 yX2_row yX2_row, Cond.code yX2_row cX2_row 3 (some .int), Cond.instantiable RX0 1, Cond.initialized RX0, Cond.methodLink RX2 73 yX2_isRow, Cond.static yX2_isRow, Cond.code yX2_isRow cX2_isRow 1 (some .boolean), Cond.methodLink RX2 76 yX0_init, Cond.instanceMethod yX0_init, Cond.code yX0_init cX0_init 2 none, Cond.methodLink RX0 1 objectInit, Cond.fieldLink RX0 7 "TollRules$Row" "items" "[I", Cond.methodLink RL 27 yX3_row, Cond.instanceMethod yX3_row, Cond.selects RX3 yX3_row yX3_row, Cond.code yX3_row cX3_row 4 (some .int)]
def wsL_law_r5 : List Cond := [Cond.methodLink RX3 78 yX3_newRow, Cond.instanceMethod yX3_newRow, Cond.selects RX3 yX3_newRow yX3_newRow, Cond.code yX3_newRow cX3_newRow 4 (some .int), Cond.methodLink RX3 74 yX3_isHeld, Cond.instanceMethod yX3_isHeld, Cond.selects RX3 yX3_isHeld yX3_isHeld, Cond.code yX3_isHeld cX3_isHeld 4 (some .boolean), Cond.methodLink RL 28 yX2_share, Cond.instanceMethod yX2_share, Cond.selects RX2 yX2_share yX2_share, Cond.code yX2_share cX2_share 3 (some .int), Cond.methodLink RL 31 yX3_share, Cond.instanceMethod yX3_share, Cond.selects RX3 yX3_share yX3_share, Cond.code yX3_share cX3_share 3 (some .int), Cond.methodLink RL 32 yX2_put, Cond.instanceMethod yX2_put, Cond.selects RX2 yX2_put yX2_put, Cond.code yX2_put cX2_put 5 (some .int), Cond.fieldLink RX2 86 "TollRules$Row" "items" "[I", Cond.methodLink RX2 79 yX2_failureAnswer, Cond.static yX2_failureAnswer, Cond.code yX2_failureAnswer cX2_failureAnswer 1 (some .int)]
def wsL_law_r6 : List Cond := [Cond.methodLink RX2 83 yX0_reaches, Cond.instanceMethod yX0_reaches, Cond.selects RX0 yX0_reaches yX0_reaches, Cond.code yX0_reaches cX0_reaches 2 (some .boolean), Cond.methodLink RL 36 yX3_put, Cond.instanceMethod yX3_put, Cond.selects RX3 yX3_put yX3_put, Cond.code yX3_put cX3_put 4 (some .int), Cond.methodLink RL 37 yX2_item, Cond.instanceMethod yX2_item, Cond.selects RX2 yX2_item yX2_item, Cond.code yX2_item cX2_item 4 (some .long), Cond.methodLink RL 40 yX3_item, Cond.instanceMethod yX3_item, Cond.selects RX3 yX3_item yX3_item, Cond.code yX3_item cX3_item 3 (some .long), Cond.methodLink RL 41 yX2_rule, Cond.instanceMethod yX2_rule, Cond.selects RX2 yX2_rule yX2_rule, Cond.code yX2_rule cX2_rule 6 (some .int), Cond.instantiable RX1 6, Cond.initialized RX1, Cond.methodLink RX2 89 yX2_isAsTold, Cond.instanceMethod yX2_isAsTold]
def wsL_law_r7 : List Cond := [Cond.selects RX2 yX2_isAsTold yX2_isAsTold, Cond.code yX2_isAsTold cX2_isAsTold 4 (some .boolean), Cond.methodLink RX2 111 yX2_isRule, Cond.instanceMethod yX2_isRule, Cond.selects RX2 yX2_isRule yX2_isRule, Cond.code yX2_isRule cX2_isRule 2 (some .boolean), Cond.methodLink RX2 93 yX2_begin, Cond.instanceMethod yX2_begin, Cond.selects RX2 yX2_begin yX2_begin, Cond.code yX2_begin cX2_begin 1 none, Cond.methodLink RX2 96 yX2_give, Cond.instanceMethod yX2_give, Cond.selects RX2 yX2_give yX2_give, Cond.code yX2_give cX2_give 4 (some .int), Cond.fieldLink RX2 138 "TollRules$Rule" "kind" "I", Cond.fieldLink RX2 141 "TollRules$Rule" "a" "I", Cond.fieldLink RX2 144 "TollRules$Rule" "kept" "I", Cond.fieldLink RX2 147 "TollRules$Rule" "keptRow" "LTollRules$Row;", Cond.fieldLink RX2 155 "TollRules$Rule" "own" "I", Cond.methodLink RX2 135 yX2_refuse, Cond.instanceMethod yX2_refuse, Cond.selects RX2 yX2_refuse yX2_refuse, Cond.code yX2_refuse cX2_refuse 3 (some .int), Cond.methodLink RX2 151 yX2_giveItem]
def wsL_law_r8 : List Cond := [Cond.instanceMethod yX2_giveItem, Cond.selects RX2 yX2_giveItem yX2_giveItem, Cond.code yX2_giveItem cX2_giveItem 4 (some .int), Cond.methodLink RX2 158 yX2_giveRoom, Cond.instanceMethod yX2_giveRoom, Cond.selects RX2 yX2_giveRoom yX2_giveRoom, Cond.code yX2_giveRoom cX2_giveRoom 4 (some .int), Cond.methodLink RX2 161 yX2_giveByOthers, Cond.instanceMethod yX2_giveByOthers, Cond.selects RX2 yX2_giveByOthers yX2_giveByOthers, Cond.code yX2_giveByOthers cX2_giveByOthers 4 (some .int), Cond.fieldLink RX2 165 "TollRules$Rule" "b" "I", Cond.methodLink RX2 171 Lib.Math.min.name, Cond.static Lib.Math.min.name, Cond.initialized "java/lang/Math", Cond.code Lib.Math.min.name Lib.Math.min.code 2 (some .int), Cond.methodLink RX2 100 yX2_isRefused, Cond.instanceMethod yX2_isRefused, Cond.selects RX2 yX2_isRefused yX2_isRefused, Cond.code yX2_isRefused cX2_isRefused 1 (some .boolean), Cond.methodLink RX2 168 yX2_giveOtherWay, Cond.instanceMethod yX2_giveOtherWay, Cond.selects RX2 yX2_giveOtherWay yX2_giveOtherWay, Cond.code yX2_giveOtherWay cX2_giveOtherWay 3 (some .int)]
def wsL_law_r9 : List Cond := [Cond.methodLink RX2 104 yX2_fail, Cond.instanceMethod yX2_fail, Cond.selects RX2 yX2_fail yX2_fail, Cond.code yX2_fail cX2_fail 1 (some .int), Cond.methodLink RX2 108 yX1_init, Cond.instanceMethod yX1_init, Cond.code yX1_init cX1_init 6 none, Cond.methodLink RX1 1 objectInit, Cond.fieldLink RX1 7 "TollRules$Rule" "kind" "I", Cond.fieldLink RX1 13 "TollRules$Rule" "a" "I", Cond.fieldLink RX1 16 "TollRules$Rule" "b" "I", Cond.fieldLink RX1 19 "TollRules$Rule" "kept" "I", Cond.fieldLink RX1 22 "TollRules$Rule" "keptRow" "LTollRules$Row;", Cond.fieldLink RX1 26 "TollRules$Rule" "own" "I", Cond.methodLink RL 44 yX3_rule, Cond.instanceMethod yX3_rule, Cond.selects RX3 yX3_rule yX3_rule, Cond.code yX3_rule cX3_rule 8 (some .int), Cond.fieldLink RX3 109 "TollRulesModel" "handed" "I", Cond.methodLink RX3 118 yX3_asks, Cond.static yX3_asks, Cond.code yX3_asks cX3_asks 1 (some .boolean), Cond.methodLink RX3 140 yX3_isRule, Cond.instanceMethod yX3_isRule]
def wsL_law_r10 : List Cond := [Cond.selects RX3 yX3_isRule yX3_isRule, Cond.code yX3_isRule cX3_isRule 2 (some .boolean), Cond.methodLink RX3 143 yX3_startsCall, Cond.instanceMethod yX3_startsCall, Cond.selects RX3 yX3_startsCall yX3_startsCall, Cond.code yX3_startsCall cX3_startsCall 1 none, Cond.fieldLink RX3 82 "TollRulesModel" "steps" "I", Cond.fieldLink RX3 95 "TollRulesModel" "failure" "I", Cond.methodLink RX3 146 yX3_gives, Cond.instanceMethod yX3_gives, Cond.selects RX3 yX3_gives yX3_gives, Cond.code yX3_gives cX3_gives 6 (some .boolean), Cond.fieldLink RX3 92 "TollRulesModel" "waiting" "I", Cond.methodLink RX3 105 yX3_begins, Cond.instanceMethod yX3_begins, Cond.selects RX3 yX3_begins yX3_begins, Cond.code yX3_begins cX3_begins 3 (some .boolean), Cond.fieldLink RX3 89 "TollRulesModel" "stepsEver" "I", Cond.methodLink RX3 85 yX3_fails, Cond.instanceMethod yX3_fails, Cond.selects RX3 yX3_fails yX3_fails, Cond.code yX3_fails cX3_fails 3 none, Cond.fieldLink RX3 98 "TollRulesModel" "failureAt" "I", Cond.methodLink RX3 115 yX3_recovers]
def wsL_law_r11 : List Cond := [Cond.instanceMethod yX3_recovers, Cond.selects RX3 yX3_recovers yX3_recovers, Cond.code yX3_recovers cX3_recovers 4 none, Cond.fieldLink RX3 112 "TollRulesModel" "elses" "I", Cond.methodLink RX3 121 yX3_goesOn, Cond.instanceMethod yX3_goesOn, Cond.selects RX3 yX3_goesOn yX3_goesOn, Cond.code yX3_goesOn cX3_goesOn 9 (some .boolean), Cond.methodLink RX3 124 yX3_given, Cond.instanceMethod yX3_given, Cond.selects RX3 yX3_given yX3_given, Cond.code yX3_given cX3_given 4 (some .int), Cond.methodLink RX3 101 yX3_itemAt, Cond.instanceMethod yX3_itemAt, Cond.selects RX3 yX3_itemAt yX3_itemAt, Cond.code yX3_itemAt cX3_itemAt 4 (some .int), Cond.methodLink RX3 149 yX3_ends, Cond.instanceMethod yX3_ends, Cond.selects RX3 yX3_ends yX3_ends, Cond.code yX3_ends cX3_ends 2 (some .int), Cond.fieldLink RX3 128 "TollRulesModel" "stepsTold" "I", Cond.methodLink RX3 131 yX3_failed, Cond.instanceMethod yX3_failed, Cond.selects RX3 yX3_failed yX3_failed]
def wsL_law_r12 : List Cond := [Cond.code yX3_failed cX3_failed 4 (some .int), Cond.fieldLink RX3 134 "TollRulesModel" "failedKind" "I", Cond.fieldLink RX3 137 "TollRulesModel" "failedMany" "I", Cond.methodLink RL 45 yX2_apply, Cond.instanceMethod yX2_apply, Cond.selects RX2 yX2_apply yX2_apply, Cond.code yX2_apply cX2_apply 4 (some .int), Cond.methodLink RL 48 yX3_apply, Cond.instanceMethod yX3_apply, Cond.selects RX3 yX3_apply yX3_apply, Cond.code yX3_apply cX3_apply 4 (some .int), Cond.fieldLink RX3 152 "TollRulesModel" "result" "I", Cond.methodLink RL 49 yX2_each, Cond.instanceMethod yX2_each, Cond.selects RX2 yX2_each yX2_each, Cond.code yX2_each cX2_each 7 (some .int), Cond.methodLink RL 52 yX3_each, Cond.instanceMethod yX3_each, Cond.selects RX3 yX3_each yX3_each, Cond.code yX3_each cX3_each 5 (some .int), Cond.methodLink RL 53 yX2_keep, Cond.instanceMethod yX2_keep, Cond.selects RX2 yX2_keep yX2_keep, Cond.code yX2_keep cX2_keep 8 (some .int)]
def wsL_law_r13 : List Cond := [Cond.methodLink RX2 114 yJ7_copyOf_59c91, Cond.static yJ7_copyOf_59c91, Cond.initialized RJ7, Cond.code yJ7_copyOf_59c91 cJ7_copyOf_59c91 3 (some (.array .int)), Cond.methodLink RJ7 316 ⟨"[I", "clone", "()Ljava/lang/Object;"⟩, Cond.sameMethod "[I" "java/lang/Object" "clone" "()Ljava/lang/Object;", Cond.native ⟨"java/lang/Object", "clone", "()Ljava/lang/Object;"⟩, Cond.instanceMethod ⟨"java/lang/Object", "clone", "()Ljava/lang/Object;"⟩, Cond.selects "[I" ⟨"[I", "clone", "()Ljava/lang/Object;"⟩ ⟨"java/lang/Object", "clone", "()Ljava/lang/Object;"⟩, Cond.classLink RJ7 317 "[I", Cond.methodLink RJ7 304 Lib.Math.min.name, Cond.methodLink RJ7 150 arraycopyName, Cond.native arraycopyName, Cond.static arraycopyName, Cond.initialized "java/lang/System", Cond.methodLink RL 56 yX3_keep, Cond.instanceMethod yX3_keep, Cond.selects RX3 yX3_keep yX3_keep, Cond.code yX3_keep cX3_keep 7 (some .int), Cond.methodLink RX3 155 yX3_asksEach, Cond.instanceMethod yX3_asksEach, Cond.selects RX3 yX3_asksEach yX3_asksEach, Cond.code yX3_asksEach cX3_asksEach 4 (some .boolean), Cond.methodLink RL 57 yX2_order]
def wsL_law_r14 : List Cond := [Cond.instanceMethod yX2_order, Cond.selects RX2 yX2_order yX2_order, Cond.code yX2_order cX2_order 6 (some .int), Cond.methodLink RX2 120 yX2_sortOrigins, Cond.instanceMethod yX2_sortOrigins, Cond.selects RX2 yX2_sortOrigins yX2_sortOrigins, Cond.code yX2_sortOrigins cX2_sortOrigins 4 none, Cond.methodLink RX2 124 yX2_moveByOrigins, Cond.instanceMethod yX2_moveByOrigins, Cond.selects RX2 yX2_moveByOrigins yX2_moveByOrigins, Cond.code yX2_moveByOrigins cX2_moveByOrigins 4 (some .int), Cond.methodLink RX2 179 arraycopyName, Cond.methodLink RL 60 yX3_order, Cond.instanceMethod yX3_order, Cond.selects RX3 yX3_order yX3_order, Cond.code yX3_order cX3_order 8 (some .int), Cond.methodLink RL 61 yX2_fold, Cond.instanceMethod yX2_fold, Cond.selects RX2 yX2_fold yX2_fold, Cond.code yX2_fold cX2_fold 8 (some .int), Cond.methodLink RX2 128 yX2_foldOne, Cond.instanceMethod yX2_foldOne, Cond.selects RX2 yX2_foldOne yX2_foldOne, Cond.code yX2_foldOne cX2_foldOne 4 (some .int)]
def wsL_law_r15 : List Cond := [Cond.methodLink RX2 176 Lib.Math.max.name, Cond.static Lib.Math.max.name, Cond.code Lib.Math.max.name Lib.Math.max.code 2 (some .int), Cond.methodLink RL 64 yX3_fold, Cond.instanceMethod yX3_fold, Cond.selects RX3 yX3_fold yX3_fold, Cond.code yX3_fold cX3_fold 8 (some .int), Cond.methodLink RL 65 yX2_until, Cond.instanceMethod yX2_until, Cond.selects RX2 yX2_until yX2_until, Cond.code yX2_until cX2_until 8 (some .int), Cond.methodLink RL 69 yX3_until, Cond.instanceMethod yX3_until, Cond.selects RX3 yX3_until yX3_until, Cond.code yX3_until cX3_until 8 (some .int), Cond.methodLink RL 70 yX2_result, Cond.instanceMethod yX2_result, Cond.selects RX2 yX2_result yX2_result, Cond.code yX2_result cX2_result 1 (some .int), Cond.methodLink RL 74 yX3_result, Cond.instanceMethod yX3_result, Cond.selects RX3 yX3_result yX3_result, Cond.code yX3_result cX3_result 1 (some .int), Cond.methodLink RL 75 yX2_steps]
def wsL_law_r16 : List Cond := [Cond.instanceMethod yX2_steps, Cond.selects RX2 yX2_steps yX2_steps, Cond.code yX2_steps cX2_steps 1 (some .int), Cond.methodLink RL 78 yX3_steps, Cond.instanceMethod yX3_steps, Cond.selects RX3 yX3_steps yX3_steps, Cond.code yX3_steps cX3_steps 1 (some .int), Cond.methodLink RL 79 yX2_failed, Cond.instanceMethod yX2_failed, Cond.selects RX2 yX2_failed yX2_failed, Cond.code yX2_failed cX2_failed 2 (some .int), Cond.methodLink RL 83 yX3_failed_, Cond.instanceMethod yX3_failed_, Cond.selects RX3 yX3_failed_ yX3_failed_, Cond.code yX3_failed_ cX3_failed_ 2 (some .int), Cond.methodLink RL 84 yX2_count, Cond.instanceMethod yX2_count, Cond.selects RX2 yX2_count yX2_count, Cond.code yX2_count cX2_count 2 (some .int), Cond.methodLink RX2 132 yX2_rowsOfNothing, Cond.instanceMethod yX2_rowsOfNothing, Cond.selects RX2 yX2_rowsOfNothing yX2_rowsOfNothing, Cond.code yX2_rowsOfNothing cX2_rowsOfNothing 3 (some .int), Cond.methodLink RL 87 yX3_count]
def wsL_law_r17 : List Cond := [Cond.instanceMethod yX3_count, Cond.selects RX3 yX3_count yX3_count, Cond.code yX3_count cX3_count 4 (some .int)]
def wsL_law : List Cond := (wsL_law_r1 ++ (wsL_law_r2 ++ (wsL_law_r3 ++ (wsL_law_r4 ++ (wsL_law_r5 ++ (wsL_law_r6 ++ (wsL_law_r7 ++ (wsL_law_r8 ++ (wsL_law_r9 ++ (wsL_law_r10 ++ (wsL_law_r11 ++ (wsL_law_r12 ++ (wsL_law_r13 ++ (wsL_law_r14 ++ (wsL_law_r15 ++ (wsL_law_r16 ++ wsL_law_r17)))))))))))))))) ++ wsX20 ++ wsX30 ++ wsX00 ++ wsX10 ++ ([] : List Cond)
theorem inlX0 : ∀ w ∈ wsX00, w ∈ wsL_law := fun _ h => List.mem_append_left _ (List.mem_append_left _ (List.mem_append_right _ h))
theorem inlX1 : ∀ w ∈ wsX10, w ∈ wsL_law := fun _ h => List.mem_append_left _ (List.mem_append_right _ h)
theorem inlX2 : ∀ w ∈ wsX20, w ∈ wsL_law := fun _ h => List.mem_append_left _ (List.mem_append_left _ (List.mem_append_left _ (List.mem_append_left _ (List.mem_append_right _ h))))
theorem inlX3 : ∀ w ∈ wsX30, w ∈ wsL_law := fun _ h => List.mem_append_left _ (List.mem_append_left _ (List.mem_append_left _ (List.mem_append_right _ h)))
theorem dX0_init_0 : decode cX0_init 0 = .ok (.aload_n 0, 1) := by decide +kernel
theorem dX0_init_1 : decode cX0_init 1 = .ok (.invokespecial 1, 3) := by decide +kernel
theorem dX0_init_4 : decode cX0_init 4 = .ok (.aload_n 0, 1) := by decide +kernel
theorem dX0_init_5 : decode cX0_init 5 = .ok (.aload_n 1, 1) := by decide +kernel
theorem dX0_init_6 : decode cX0_init 6 = .ok (.putfield 7, 3) := by decide +kernel
theorem dX0_init_9 : decode cX0_init 9 = .ok (.return_, 1) := by decide +kernel
theorem dX0_reaches_0 : decode cX0_reaches 0 = .ok (.iload_n 1, 1) := by decide +kernel
theorem dX0_reaches_1 : decode cX0_reaches 1 = .ok (.ifCond .lt 16, 3) := by decide +kernel
theorem dX0_reaches_4 : decode cX0_reaches 4 = .ok (.iload_n 1, 1) := by decide +kernel
theorem dX0_reaches_5 : decode cX0_reaches 5 = .ok (.aload_n 0, 1) := by decide +kernel
theorem dX0_reaches_6 : decode cX0_reaches 6 = .ok (.getfield 7, 3) := by decide +kernel
theorem dX0_reaches_9 : decode cX0_reaches 9 = .ok (.arraylength, 1) := by decide +kernel
theorem dX0_reaches_10 : decode cX0_reaches 10 = .ok (.if_icmp .ge 7, 3) := by decide +kernel
theorem dX0_reaches_13 : decode cX0_reaches 13 = .ok (.iconst 1, 1) := by decide +kernel
theorem dX0_reaches_14 : decode cX0_reaches 14 = .ok (.goto 4, 3) := by decide +kernel
theorem dX0_reaches_17 : decode cX0_reaches 17 = .ok (.iconst 0, 1) := by decide +kernel
theorem dX0_reaches_18 : decode cX0_reaches 18 = .ok (.ireturn, 1) := by decide +kernel
theorem dX1_init_0 : decode cX1_init 0 = .ok (.aload_n 0, 1) := by decide +kernel
theorem dX1_init_1 : decode cX1_init 1 = .ok (.invokespecial 1, 3) := by decide +kernel
theorem dX1_init_4 : decode cX1_init 4 = .ok (.aload_n 0, 1) := by decide +kernel
theorem dX1_init_5 : decode cX1_init 5 = .ok (.iload_n 1, 1) := by decide +kernel
theorem dX1_init_6 : decode cX1_init 6 = .ok (.putfield 7, 3) := by decide +kernel
theorem dX1_init_9 : decode cX1_init 9 = .ok (.aload_n 0, 1) := by decide +kernel
theorem dX1_init_10 : decode cX1_init 10 = .ok (.iload_n 2, 1) := by decide +kernel
theorem dX1_init_11 : decode cX1_init 11 = .ok (.putfield 13, 3) := by decide +kernel
theorem dX1_init_14 : decode cX1_init 14 = .ok (.aload_n 0, 1) := by decide +kernel
theorem dX1_init_15 : decode cX1_init 15 = .ok (.iload_n 3, 1) := by decide +kernel
theorem dX1_init_16 : decode cX1_init 16 = .ok (.putfield 16, 3) := by decide +kernel
theorem dX1_init_19 : decode cX1_init 19 = .ok (.aload_n 0, 1) := by decide +kernel
theorem dX1_init_20 : decode cX1_init 20 = .ok (.iload 4, 2) := by decide +kernel
theorem dX1_init_22 : decode cX1_init 22 = .ok (.putfield 19, 3) := by decide +kernel
theorem dX1_init_25 : decode cX1_init 25 = .ok (.aload_n 0, 1) := by decide +kernel
theorem dX1_init_26 : decode cX1_init 26 = .ok (.aload 5, 2) := by decide +kernel
theorem dX1_init_28 : decode cX1_init 28 = .ok (.putfield 22, 3) := by decide +kernel
theorem dX1_init_31 : decode cX1_init 31 = .ok (.aload_n 0, 1) := by decide +kernel
theorem dX1_init_32 : decode cX1_init 32 = .ok (.iconst 0, 1) := by decide +kernel
theorem dX1_init_33 : decode cX1_init 33 = .ok (.putfield 26, 3) := by decide +kernel
theorem dX1_init_36 : decode cX1_init 36 = .ok (.return_, 1) := by decide +kernel
theorem dX2_init_0 : decode cX2_init 0 = .ok (.aload_n 0, 1) := by decide +kernel
theorem dX2_init_1 : decode cX2_init 1 = .ok (.invokespecial 3, 3) := by decide +kernel
theorem dX2_init_4 : decode cX2_init 4 = .ok (.aload_n 0, 1) := by decide +kernel
theorem dX2_init_5 : decode cX2_init 5 = .ok (.bipush 8, 2) := by decide +kernel
theorem dX2_init_7 : decode cX2_init 7 = .ok (.newarray .int, 2) := by decide +kernel
theorem dX2_init_9 : decode cX2_init 9 = .ok (.putfield 11, 3) := by decide +kernel
theorem dX2_init_12 : decode cX2_init 12 = .ok (.aload_n 0, 1) := by decide +kernel
theorem dX2_init_13 : decode cX2_init 13 = .ok (.iconst 4, 1) := by decide +kernel
theorem dX2_init_14 : decode cX2_init 14 = .ok (.anewarray 15, 3) := by decide +kernel
theorem dX2_init_17 : decode cX2_init 17 = .ok (.putfield 17, 3) := by decide +kernel
theorem dX2_init_20 : decode cX2_init 20 = .ok (.aload_n 0, 1) := by decide +kernel
theorem dX2_init_21 : decode cX2_init 21 = .ok (.bipush 40, 2) := by decide +kernel
theorem dX2_init_23 : decode cX2_init 23 = .ok (.anewarray 21, 3) := by decide +kernel
theorem dX2_init_26 : decode cX2_init 26 = .ok (.putfield 23, 3) := by decide +kernel
theorem dX2_init_29 : decode cX2_init 29 = .ok (.aload_n 0, 1) := by decide +kernel
theorem dX2_init_30 : decode cX2_init 30 = .ok (.iconst 0, 1) := by decide +kernel
theorem dX2_init_31 : decode cX2_init 31 = .ok (.putfield 27, 3) := by decide +kernel
theorem dX2_init_34 : decode cX2_init 34 = .ok (.aload_n 0, 1) := by decide +kernel
theorem dX2_init_35 : decode cX2_init 35 = .ok (.bipush 10, 2) := by decide +kernel
theorem dX2_init_37 : decode cX2_init 37 = .ok (.newarray .int, 2) := by decide +kernel
theorem dX2_init_39 : decode cX2_init 39 = .ok (.putfield 31, 3) := by decide +kernel
theorem dX2_init_42 : decode cX2_init 42 = .ok (.aload_n 0, 1) := by decide +kernel
theorem dX2_init_43 : decode cX2_init 43 = .ok (.bipush 10, 2) := by decide +kernel
theorem dX2_init_45 : decode cX2_init 45 = .ok (.newarray .int, 2) := by decide +kernel
theorem dX2_init_47 : decode cX2_init 47 = .ok (.putfield 34, 3) := by decide +kernel
theorem dX2_init_50 : decode cX2_init 50 = .ok (.aload_n 0, 1) := by decide +kernel
theorem dX2_init_51 : decode cX2_init 51 = .ok (.bipush 10, 2) := by decide +kernel
theorem dX2_init_53 : decode cX2_init 53 = .ok (.newarray .int, 2) := by decide +kernel
theorem dX2_init_55 : decode cX2_init 55 = .ok (.putfield 37, 3) := by decide +kernel
theorem dX2_init_58 : decode cX2_init 58 = .ok (.aload_n 0, 1) := by decide +kernel
theorem dX2_init_59 : decode cX2_init 59 = .ok (.iconst 0, 1) := by decide +kernel
theorem dX2_init_60 : decode cX2_init 60 = .ok (.putfield 40, 3) := by decide +kernel
theorem dX2_init_63 : decode cX2_init 63 = .ok (.aload_n 0, 1) := by decide +kernel
theorem dX2_init_64 : decode cX2_init 64 = .ok (.iconst (-1), 1) := by decide +kernel
theorem dX2_init_65 : decode cX2_init 65 = .ok (.putfield 43, 3) := by decide +kernel
theorem dX2_init_68 : decode cX2_init 68 = .ok (.aload_n 0, 1) := by decide +kernel
theorem dX2_init_69 : decode cX2_init 69 = .ok (.iconst 0, 1) := by decide +kernel
theorem dX2_init_70 : decode cX2_init 70 = .ok (.putfield 46, 3) := by decide +kernel
theorem dX2_init_73 : decode cX2_init 73 = .ok (.aload_n 0, 1) := by decide +kernel
theorem dX2_init_74 : decode cX2_init 74 = .ok (.iconst 0, 1) := by decide +kernel
theorem dX2_init_75 : decode cX2_init 75 = .ok (.putfield 49, 3) := by decide +kernel
theorem dX2_init_78 : decode cX2_init 78 = .ok (.aload_n 0, 1) := by decide +kernel
theorem dX2_init_79 : decode cX2_init 79 = .ok (.iconst 0, 1) := by decide +kernel
theorem dX2_init_80 : decode cX2_init 80 = .ok (.putfield 52, 3) := by decide +kernel
theorem dX2_init_83 : decode cX2_init 83 = .ok (.aload_n 0, 1) := by decide +kernel
theorem dX2_init_84 : decode cX2_init 84 = .ok (.iconst 0, 1) := by decide +kernel
theorem dX2_init_85 : decode cX2_init 85 = .ok (.putfield 55, 3) := by decide +kernel
theorem dX2_init_88 : decode cX2_init 88 = .ok (.aload_n 0, 1) := by decide +kernel
theorem dX2_init_89 : decode cX2_init 89 = .ok (.iconst (-1), 1) := by decide +kernel
theorem dX2_init_90 : decode cX2_init 90 = .ok (.putfield 58, 3) := by decide +kernel
theorem dX2_init_93 : decode cX2_init 93 = .ok (.aload_n 0, 1) := by decide +kernel
theorem dX2_init_94 : decode cX2_init 94 = .ok (.iconst 0, 1) := by decide +kernel
theorem dX2_init_95 : decode cX2_init 95 = .ok (.putfield 61, 3) := by decide +kernel
theorem dX2_init_98 : decode cX2_init 98 = .ok (.aload_n 0, 1) := by decide +kernel
theorem dX2_init_99 : decode cX2_init 99 = .ok (.iconst 0, 1) := by decide +kernel
theorem dX2_init_100 : decode cX2_init 100 = .ok (.putfield 64, 3) := by decide +kernel
theorem dX2_init_103 : decode cX2_init 103 = .ok (.return_, 1) := by decide +kernel
set_option maxRecDepth 20000 in
theorem ggX2_place_X2_isPlace : GoodIn wsX2_place wsX2_isPlace := goodIn_r _ [6] (by decide +kernel) (by decide +kernel)
set_option maxRecDepth 20000 in
theorem gX2_place_X2_isPlace : GoodIn wsX2_place (va_wsS RX2 67 yX2_isPlace wsX2_isPlace) := goodIn_app (goodIn_of _ (by decide +kernel)) ggX2_place_X2_isPlace
theorem dX2_place_0 : decode cX2_place 0 = .ok (.iload_n 1, 1) := by decide +kernel
theorem dX2_place_1 : decode cX2_place 1 = .ok (.invokestatic 67, 3) := by decide +kernel
theorem dX2_place_4 : decode cX2_place 4 = .ok (.ifCond .ne 7, 3) := by decide +kernel
theorem dX2_place_7 : decode cX2_place 7 = .ok (.ldc2_w 71, 3) := by decide +kernel
theorem dX2_place_10 : decode cX2_place 10 = .ok (.lreturn, 1) := by decide +kernel
theorem dX2_place_11 : decode cX2_place 11 = .ok (.aload_n 0, 1) := by decide +kernel
theorem dX2_place_12 : decode cX2_place 12 = .ok (.getfield 11, 3) := by decide +kernel
theorem dX2_place_15 : decode cX2_place 15 = .ok (.iload_n 1, 1) := by decide +kernel
theorem dX2_place_16 : decode cX2_place 16 = .ok (.iaload, 1) := by decide +kernel
theorem dX2_place_17 : decode cX2_place 17 = .ok (.istore_n 3, 1) := by decide +kernel
theorem dX2_place_18 : decode cX2_place 18 = .ok (.aload_n 0, 1) := by decide +kernel
theorem dX2_place_19 : decode cX2_place 19 = .ok (.getfield 11, 3) := by decide +kernel
theorem dX2_place_22 : decode cX2_place 22 = .ok (.iload_n 1, 1) := by decide +kernel
theorem dX2_place_23 : decode cX2_place 23 = .ok (.iload_n 2, 1) := by decide +kernel
theorem dX2_place_24 : decode cX2_place 24 = .ok (.iastore, 1) := by decide +kernel
theorem dX2_place_25 : decode cX2_place 25 = .ok (.iload_n 3, 1) := by decide +kernel
theorem dX2_place_26 : decode cX2_place 26 = .ok (.i2l, 1) := by decide +kernel
theorem dX2_place_27 : decode cX2_place 27 = .ok (.lreturn, 1) := by decide +kernel
set_option maxRecDepth 20000 in
theorem ggX2_has_X2_isPlace : GoodIn wsX2_has wsX2_isPlace := goodIn_r _ [6] (by decide +kernel) (by decide +kernel)
set_option maxRecDepth 20000 in
theorem gX2_has_X2_isPlace : GoodIn wsX2_has (va_wsS RX2 67 yX2_isPlace wsX2_isPlace) := goodIn_app (goodIn_of _ (by decide +kernel)) ggX2_has_X2_isPlace
theorem dX2_has_0 : decode cX2_has 0 = .ok (.iload_n 1, 1) := by decide +kernel
theorem dX2_has_1 : decode cX2_has 1 = .ok (.invokestatic 67, 3) := by decide +kernel
theorem dX2_has_4 : decode cX2_has 4 = .ok (.ifCond .eq 13, 3) := by decide +kernel
theorem dX2_has_7 : decode cX2_has 7 = .ok (.aload_n 0, 1) := by decide +kernel
theorem dX2_has_8 : decode cX2_has 8 = .ok (.getfield 11, 3) := by decide +kernel
theorem dX2_has_11 : decode cX2_has 11 = .ok (.iload_n 1, 1) := by decide +kernel
theorem dX2_has_12 : decode cX2_has 12 = .ok (.iaload, 1) := by decide +kernel
theorem dX2_has_13 : decode cX2_has 13 = .ok (.i2l, 1) := by decide +kernel
theorem dX2_has_14 : decode cX2_has 14 = .ok (.goto 6, 3) := by decide +kernel
theorem dX2_has_17 : decode cX2_has 17 = .ok (.ldc2_w 71, 3) := by decide +kernel
theorem dX2_has_20 : decode cX2_has 20 = .ok (.lreturn, 1) := by decide +kernel
set_option maxRecDepth 20000 in
theorem ggX2_row_X2_isRow : GoodIn wsX2_row wsX2_isRow := goodIn_r _ [9] (by decide +kernel) (by decide +kernel)
set_option maxRecDepth 20000 in
theorem gX2_row_X2_isRow : GoodIn wsX2_row (va_wsS RX2 73 yX2_isRow wsX2_isRow) := goodIn_app (goodIn_of _ (by decide +kernel)) ggX2_row_X2_isRow
set_option maxRecDepth 20000 in
theorem ggX2_row_X0_init : GoodIn wsX2_row wsX0_init := goodIn_r _ [12, 13, 14, 15, 16, 33] (by decide +kernel) (by decide +kernel)
set_option maxRecDepth 20000 in
theorem gX2_row_X0_init : GoodIn wsX2_row (wsX0_init) := ggX2_row_X0_init
theorem dX2_row_0 : decode cX2_row 0 = .ok (.iload_n 1, 1) := by decide +kernel
theorem dX2_row_1 : decode cX2_row 1 = .ok (.invokestatic 73, 3) := by decide +kernel
theorem dX2_row_4 : decode cX2_row 4 = .ok (.ifCond .eq 14, 3) := by decide +kernel
theorem dX2_row_7 : decode cX2_row 7 = .ok (.iload_n 2, 1) := by decide +kernel
theorem dX2_row_8 : decode cX2_row 8 = .ok (.iconst (-1), 1) := by decide +kernel
theorem dX2_row_9 : decode cX2_row 9 = .ok (.if_icmp .lt 9, 3) := by decide +kernel
theorem dX2_row_12 : decode cX2_row 12 = .ok (.iload_n 2, 1) := by decide +kernel
theorem dX2_row_13 : decode cX2_row 13 = .ok (.bipush 10, 2) := by decide +kernel
theorem dX2_row_15 : decode cX2_row 15 = .ok (.if_icmp .le 5, 3) := by decide +kernel
theorem dX2_row_18 : decode cX2_row 18 = .ok (.iconst (-1), 1) := by decide +kernel
theorem dX2_row_19 : decode cX2_row 19 = .ok (.ireturn, 1) := by decide +kernel
theorem dX2_row_20 : decode cX2_row 20 = .ok (.aload_n 0, 1) := by decide +kernel
theorem dX2_row_21 : decode cX2_row 21 = .ok (.getfield 17, 3) := by decide +kernel
theorem dX2_row_24 : decode cX2_row 24 = .ok (.iload_n 1, 1) := by decide +kernel
theorem dX2_row_25 : decode cX2_row 25 = .ok (.iload_n 2, 1) := by decide +kernel
theorem dX2_row_26 : decode cX2_row 26 = .ok (.iconst (-1), 1) := by decide +kernel
theorem dX2_row_27 : decode cX2_row 27 = .ok (.if_icmp .ne 7, 3) := by decide +kernel
theorem dX2_row_30 : decode cX2_row 30 = .ok (.aconst_null, 1) := by decide +kernel
theorem dX2_row_31 : decode cX2_row 31 = .ok (.goto 13, 3) := by decide +kernel
theorem dX2_row_34 : decode cX2_row 34 = .ok (.new 15, 3) := by decide +kernel
theorem dX2_row_37 : decode cX2_row 37 = .ok (.dup, 1) := by decide +kernel
theorem dX2_row_38 : decode cX2_row 38 = .ok (.iload_n 2, 1) := by decide +kernel
theorem dX2_row_39 : decode cX2_row 39 = .ok (.newarray .int, 2) := by decide +kernel
theorem dX2_row_41 : decode cX2_row 41 = .ok (.invokespecial 76, 3) := by decide +kernel
theorem dX2_row_44 : decode cX2_row 44 = .ok (.aastore, 1) := by decide +kernel
theorem dX2_row_45 : decode cX2_row 45 = .ok (.iconst 1, 1) := by decide +kernel
theorem dX2_row_46 : decode cX2_row 46 = .ok (.ireturn, 1) := by decide +kernel
set_option maxRecDepth 20000 in
theorem ggX2_share_X2_isRow : GoodIn wsX2_share wsX2_isRow := goodIn_r _ [5] (by decide +kernel) (by decide +kernel)
set_option maxRecDepth 20000 in
theorem gX2_share_X2_isRow : GoodIn wsX2_share (va_wsS RX2 73 yX2_isRow wsX2_isRow) := goodIn_app (goodIn_of _ (by decide +kernel)) ggX2_share_X2_isRow
theorem dX2_share_0 : decode cX2_share 0 = .ok (.iload_n 1, 1) := by decide +kernel
theorem dX2_share_1 : decode cX2_share 1 = .ok (.invokestatic 73, 3) := by decide +kernel
theorem dX2_share_4 : decode cX2_share 4 = .ok (.ifCond .eq 10, 3) := by decide +kernel
theorem dX2_share_7 : decode cX2_share 7 = .ok (.iload_n 2, 1) := by decide +kernel
theorem dX2_share_8 : decode cX2_share 8 = .ok (.invokestatic 73, 3) := by decide +kernel
theorem dX2_share_11 : decode cX2_share 11 = .ok (.ifCond .ne 5, 3) := by decide +kernel
theorem dX2_share_14 : decode cX2_share 14 = .ok (.iconst (-1), 1) := by decide +kernel
theorem dX2_share_15 : decode cX2_share 15 = .ok (.ireturn, 1) := by decide +kernel
theorem dX2_share_16 : decode cX2_share 16 = .ok (.aload_n 0, 1) := by decide +kernel
theorem dX2_share_17 : decode cX2_share 17 = .ok (.getfield 17, 3) := by decide +kernel
theorem dX2_share_20 : decode cX2_share 20 = .ok (.iload_n 1, 1) := by decide +kernel
theorem dX2_share_21 : decode cX2_share 21 = .ok (.aload_n 0, 1) := by decide +kernel
theorem dX2_share_22 : decode cX2_share 22 = .ok (.getfield 17, 3) := by decide +kernel
theorem dX2_share_25 : decode cX2_share 25 = .ok (.iload_n 2, 1) := by decide +kernel
theorem dX2_share_26 : decode cX2_share 26 = .ok (.aaload, 1) := by decide +kernel
theorem dX2_share_27 : decode cX2_share 27 = .ok (.aastore, 1) := by decide +kernel
theorem dX2_share_28 : decode cX2_share 28 = .ok (.aload_n 0, 1) := by decide +kernel
theorem dX2_share_29 : decode cX2_share 29 = .ok (.getfield 17, 3) := by decide +kernel
theorem dX2_share_32 : decode cX2_share 32 = .ok (.iload_n 1, 1) := by decide +kernel
theorem dX2_share_33 : decode cX2_share 33 = .ok (.aaload, 1) := by decide +kernel
theorem dX2_share_34 : decode cX2_share 34 = .ok (.ifnonnull 7, 3) := by decide +kernel
theorem dX2_share_37 : decode cX2_share 37 = .ok (.iconst 0, 1) := by decide +kernel
theorem dX2_share_38 : decode cX2_share 38 = .ok (.goto 4, 3) := by decide +kernel
theorem dX2_share_41 : decode cX2_share 41 = .ok (.iconst 1, 1) := by decide +kernel
theorem dX2_share_42 : decode cX2_share 42 = .ok (.ireturn, 1) := by decide +kernel
set_option maxRecDepth 20000 in
theorem ggX2_put_X2_isRow : GoodIn wsX2_put wsX2_isRow := goodIn_r _ [6] (by decide +kernel) (by decide +kernel)
set_option maxRecDepth 20000 in
theorem gX2_put_X2_isRow : GoodIn wsX2_put (va_wsS RX2 73 yX2_isRow wsX2_isRow) := goodIn_app (goodIn_of _ (by decide +kernel)) ggX2_put_X2_isRow
set_option maxRecDepth 20000 in
theorem ggX2_put_X2_failureAnswer : GoodIn wsX2_put wsX2_failureAnswer := goodIn_r _ [9] (by decide +kernel) (by decide +kernel)
set_option maxRecDepth 20000 in
theorem gX2_put_X2_failureAnswer : GoodIn wsX2_put (va_wsS RX2 79 yX2_failureAnswer wsX2_failureAnswer) := goodIn_app (goodIn_of _ (by decide +kernel)) ggX2_put_X2_failureAnswer
set_option maxRecDepth 20000 in
theorem ggX2_put_X0_reaches : GoodIn wsX2_put wsX0_reaches := goodIn_r _ [14, 15, 32] (by decide +kernel) (by decide +kernel)
set_option maxRecDepth 20000 in
theorem gX2_put_X0_reaches : GoodIn wsX2_put (wsV RX2 83 RX0 yX0_reaches wsX0_reaches) := goodIn_app (goodIn_of _ (by decide +kernel)) ggX2_put_X0_reaches
theorem dX2_put_0 : decode cX2_put 0 = .ok (.iload_n 1, 1) := by decide +kernel
theorem dX2_put_1 : decode cX2_put 1 = .ok (.invokestatic 73, 3) := by decide +kernel
theorem dX2_put_4 : decode cX2_put 4 = .ok (.ifCond .ne 5, 3) := by decide +kernel
theorem dX2_put_7 : decode cX2_put 7 = .ok (.iconst (-1), 1) := by decide +kernel
theorem dX2_put_8 : decode cX2_put 8 = .ok (.ireturn, 1) := by decide +kernel
theorem dX2_put_9 : decode cX2_put 9 = .ok (.aload_n 0, 1) := by decide +kernel
theorem dX2_put_10 : decode cX2_put 10 = .ok (.getfield 17, 3) := by decide +kernel
theorem dX2_put_13 : decode cX2_put 13 = .ok (.iload_n 1, 1) := by decide +kernel
theorem dX2_put_14 : decode cX2_put 14 = .ok (.aaload, 1) := by decide +kernel
theorem dX2_put_15 : decode cX2_put 15 = .ok (.astore 4, 2) := by decide +kernel
theorem dX2_put_17 : decode cX2_put 17 = .ok (.aload 4, 2) := by decide +kernel
theorem dX2_put_19 : decode cX2_put 19 = .ok (.ifnonnull 8, 3) := by decide +kernel
theorem dX2_put_22 : decode cX2_put 22 = .ok (.iconst 3, 1) := by decide +kernel
theorem dX2_put_23 : decode cX2_put 23 = .ok (.invokestatic 79, 3) := by decide +kernel
theorem dX2_put_26 : decode cX2_put 26 = .ok (.ireturn, 1) := by decide +kernel
theorem dX2_put_27 : decode cX2_put 27 = .ok (.aload 4, 2) := by decide +kernel
theorem dX2_put_29 : decode cX2_put 29 = .ok (.iload_n 2, 1) := by decide +kernel
theorem dX2_put_30 : decode cX2_put 30 = .ok (.invokevirtual 83, 3) := by decide +kernel
theorem dX2_put_33 : decode cX2_put 33 = .ok (.ifCond .ne 8, 3) := by decide +kernel
theorem dX2_put_36 : decode cX2_put 36 = .ok (.iconst 2, 1) := by decide +kernel
theorem dX2_put_37 : decode cX2_put 37 = .ok (.invokestatic 79, 3) := by decide +kernel
theorem dX2_put_40 : decode cX2_put 40 = .ok (.ireturn, 1) := by decide +kernel
theorem dX2_put_41 : decode cX2_put 41 = .ok (.aload 4, 2) := by decide +kernel
theorem dX2_put_43 : decode cX2_put 43 = .ok (.getfield 86, 3) := by decide +kernel
theorem dX2_put_46 : decode cX2_put 46 = .ok (.iload_n 2, 1) := by decide +kernel
theorem dX2_put_47 : decode cX2_put 47 = .ok (.iload_n 3, 1) := by decide +kernel
theorem dX2_put_48 : decode cX2_put 48 = .ok (.iastore, 1) := by decide +kernel
theorem dX2_put_49 : decode cX2_put 49 = .ok (.iconst 1, 1) := by decide +kernel
theorem dX2_put_50 : decode cX2_put 50 = .ok (.ireturn, 1) := by decide +kernel
set_option maxRecDepth 20000 in
theorem ggX2_item_X2_isRow : GoodIn wsX2_item wsX2_isRow := goodIn_r _ [7] (by decide +kernel) (by decide +kernel)
set_option maxRecDepth 20000 in
theorem gX2_item_X2_isRow : GoodIn wsX2_item (va_wsS RX2 73 yX2_isRow wsX2_isRow) := goodIn_app (goodIn_of _ (by decide +kernel)) ggX2_item_X2_isRow
set_option maxRecDepth 20000 in
theorem ggX2_item_X0_reaches : GoodIn wsX2_item wsX0_reaches := goodIn_r _ [12, 13, 30] (by decide +kernel) (by decide +kernel)
set_option maxRecDepth 20000 in
theorem gX2_item_X0_reaches : GoodIn wsX2_item (wsV RX2 83 RX0 yX0_reaches wsX0_reaches) := goodIn_app (goodIn_of _ (by decide +kernel)) ggX2_item_X0_reaches
theorem dX2_item_0 : decode cX2_item 0 = .ok (.iload_n 1, 1) := by decide +kernel
theorem dX2_item_1 : decode cX2_item 1 = .ok (.invokestatic 73, 3) := by decide +kernel
theorem dX2_item_4 : decode cX2_item 4 = .ok (.ifCond .ne 7, 3) := by decide +kernel
theorem dX2_item_7 : decode cX2_item 7 = .ok (.ldc2_w 71, 3) := by decide +kernel
theorem dX2_item_10 : decode cX2_item 10 = .ok (.lreturn, 1) := by decide +kernel
theorem dX2_item_11 : decode cX2_item 11 = .ok (.aload_n 0, 1) := by decide +kernel
theorem dX2_item_12 : decode cX2_item 12 = .ok (.getfield 17, 3) := by decide +kernel
theorem dX2_item_15 : decode cX2_item 15 = .ok (.iload_n 1, 1) := by decide +kernel
theorem dX2_item_16 : decode cX2_item 16 = .ok (.aaload, 1) := by decide +kernel
theorem dX2_item_17 : decode cX2_item 17 = .ok (.astore_n 3, 1) := by decide +kernel
theorem dX2_item_18 : decode cX2_item 18 = .ok (.aload_n 3, 1) := by decide +kernel
theorem dX2_item_19 : decode cX2_item 19 = .ok (.ifnull 21, 3) := by decide +kernel
theorem dX2_item_22 : decode cX2_item 22 = .ok (.aload_n 3, 1) := by decide +kernel
theorem dX2_item_23 : decode cX2_item 23 = .ok (.iload_n 2, 1) := by decide +kernel
theorem dX2_item_24 : decode cX2_item 24 = .ok (.invokevirtual 83, 3) := by decide +kernel
theorem dX2_item_27 : decode cX2_item 27 = .ok (.ifCond .eq 13, 3) := by decide +kernel
theorem dX2_item_30 : decode cX2_item 30 = .ok (.aload_n 3, 1) := by decide +kernel
theorem dX2_item_31 : decode cX2_item 31 = .ok (.getfield 86, 3) := by decide +kernel
theorem dX2_item_34 : decode cX2_item 34 = .ok (.iload_n 2, 1) := by decide +kernel
theorem dX2_item_35 : decode cX2_item 35 = .ok (.iaload, 1) := by decide +kernel
theorem dX2_item_36 : decode cX2_item 36 = .ok (.i2l, 1) := by decide +kernel
theorem dX2_item_37 : decode cX2_item 37 = .ok (.goto 6, 3) := by decide +kernel
theorem dX2_item_40 : decode cX2_item 40 = .ok (.ldc2_w 71, 3) := by decide +kernel
theorem dX2_item_43 : decode cX2_item 43 = .ok (.lreturn, 1) := by decide +kernel
set_option maxRecDepth 20000 in
theorem ggX2_rule_X2_isAsTold : GoodIn wsX2_rule wsX2_isAsTold := goodIn_r _ [12, 13, 14, 11, 15, 16, 17, 18, 19, 20, 21, 22, 1, 99, 100, 101, 102, 103, 104, 105, 106, 107, 108, 109, 110, 111, 112, 113, 114] (by decide +kernel) (by decide +kernel)
set_option maxRecDepth 20000 in
theorem gX2_rule_X2_isAsTold : GoodIn wsX2_rule (wsV RX2 89 RX2 yX2_isAsTold wsX2_isAsTold) := goodIn_app (goodIn_of _ (by decide +kernel)) ggX2_rule_X2_isAsTold
set_option maxRecDepth 20000 in
theorem ggX2_rule_X2_begin : GoodIn wsX2_rule wsX2_begin := goodIn_r _ [26, 27, 28, 99, 100, 101, 102, 103, 104, 105, 106, 107, 108, 109, 110, 111, 112, 113, 114] (by decide +kernel) (by decide +kernel)
set_option maxRecDepth 20000 in
theorem gX2_rule_X2_begin : GoodIn wsX2_rule (wsV RX2 93 RX2 yX2_begin wsX2_begin) := goodIn_app (goodIn_of _ (by decide +kernel)) ggX2_rule_X2_begin
set_option maxRecDepth 20000 in
theorem ggX2_rule_X2_give : GoodIn wsX2_rule wsX2_give := goodIn_r _ [32, 27, 33, 4, 34, 35, 36, 2, 37, 3, 38, 39, 40, 41, 11, 42, 28, 43, 44, 45, 46, 47, 48, 49, 50, 51, 52, 53, 54, 55, 56, 57, 58, 59, 60, 61, 62, 63, 64, 65, 66, 67, 29, 30, 31, 68, 69, 70, 71, 72, 73, 74, 75, 76, 99, 100, 101, 102, 103, 104, 105, 106, 107, 108, 109, 110, 111, 112, 113, 114, 115, 116, 117, 118, 119, 120, 121] (by decide +kernel) (by decide +kernel)
set_option maxRecDepth 20000 in
theorem gX2_rule_X2_give : GoodIn wsX2_rule (wsV RX2 96 RX2 yX2_give wsX2_give) := goodIn_app (goodIn_of _ (by decide +kernel)) ggX2_rule_X2_give
set_option maxRecDepth 20000 in
theorem ggX2_rule_X2_isRefused : GoodIn wsX2_rule wsX2_isRefused := goodIn_r _ [71, 28, 99, 100, 101, 102, 103, 104, 105, 106, 107, 108, 109, 110, 111, 112, 113, 114] (by decide +kernel) (by decide +kernel)
set_option maxRecDepth 20000 in
theorem gX2_rule_X2_isRefused : GoodIn wsX2_rule (wsV RX2 100 RX2 yX2_isRefused wsX2_isRefused) := goodIn_app (goodIn_of _ (by decide +kernel)) ggX2_rule_X2_isRefused
set_option maxRecDepth 20000 in
theorem ggX2_rule_X2_fail : GoodIn wsX2_rule wsX2_fail := goodIn_r _ [80, 28, 81, 43, 82, 83, 84, 85, 11, 86, 99, 100, 101, 102, 103, 104, 105, 106, 107, 108, 109, 110, 111, 112, 113, 114] (by decide +kernel) (by decide +kernel)
set_option maxRecDepth 20000 in
theorem gX2_rule_X2_fail : GoodIn wsX2_rule (wsV RX2 104 RX2 yX2_fail wsX2_fail) := goodIn_app (goodIn_of _ (by decide +kernel)) ggX2_rule_X2_fail
set_option maxRecDepth 20000 in
theorem ggX2_rule_X1_init : GoodIn wsX2_rule wsX1_init := goodIn_r _ [89, 90, 91, 92, 93, 94, 95, 96, 97, 98, 115, 116, 117, 118, 119, 120] (by decide +kernel) (by decide +kernel)
set_option maxRecDepth 20000 in
theorem gX2_rule_X1_init : GoodIn wsX2_rule (wsX1_init) := ggX2_rule_X1_init
theorem dX2_rule_0 : decode cX2_rule 0 = .ok (.aload_n 0, 1) := by decide +kernel
theorem dX2_rule_1 : decode cX2_rule 1 = .ok (.iload_n 1, 1) := by decide +kernel
theorem dX2_rule_2 : decode cX2_rule 2 = .ok (.iload_n 2, 1) := by decide +kernel
theorem dX2_rule_3 : decode cX2_rule 3 = .ok (.iload_n 3, 1) := by decide +kernel
theorem dX2_rule_4 : decode cX2_rule 4 = .ok (.invokevirtual 89, 3) := by decide +kernel
theorem dX2_rule_7 : decode cX2_rule 7 = .ok (.ifCond .ne 5, 3) := by decide +kernel
theorem dX2_rule_10 : decode cX2_rule 10 = .ok (.iconst (-1), 1) := by decide +kernel
theorem dX2_rule_11 : decode cX2_rule 11 = .ok (.ireturn, 1) := by decide +kernel
theorem dX2_rule_12 : decode cX2_rule 12 = .ok (.aload_n 0, 1) := by decide +kernel
theorem dX2_rule_13 : decode cX2_rule 13 = .ok (.getfield 27, 3) := by decide +kernel
theorem dX2_rule_16 : decode cX2_rule 16 = .ok (.bipush 40, 2) := by decide +kernel
theorem dX2_rule_18 : decode cX2_rule 18 = .ok (.if_icmp .lt 6, 3) := by decide +kernel
theorem dX2_rule_21 : decode cX2_rule 21 = .ok (.bipush (-2), 2) := by decide +kernel
theorem dX2_rule_23 : decode cX2_rule 23 = .ok (.ireturn, 1) := by decide +kernel
theorem dX2_rule_24 : decode cX2_rule 24 = .ok (.iload_n 1, 1) := by decide +kernel
theorem dX2_rule_25 : decode cX2_rule 25 = .ok (.iconst 4, 1) := by decide +kernel
theorem dX2_rule_26 : decode cX2_rule 26 = .ok (.if_icmp .ne 12, 3) := by decide +kernel
theorem dX2_rule_29 : decode cX2_rule 29 = .ok (.aload_n 0, 1) := by decide +kernel
theorem dX2_rule_30 : decode cX2_rule 30 = .ok (.getfield 11, 3) := by decide +kernel
theorem dX2_rule_33 : decode cX2_rule 33 = .ok (.iload_n 2, 1) := by decide +kernel
theorem dX2_rule_34 : decode cX2_rule 34 = .ok (.iaload, 1) := by decide +kernel
theorem dX2_rule_35 : decode cX2_rule 35 = .ok (.goto 4, 3) := by decide +kernel
theorem dX2_rule_38 : decode cX2_rule 38 = .ok (.iconst 0, 1) := by decide +kernel
theorem dX2_rule_39 : decode cX2_rule 39 = .ok (.istore 4, 2) := by decide +kernel
theorem dX2_rule_41 : decode cX2_rule 41 = .ok (.iload_n 1, 1) := by decide +kernel
theorem dX2_rule_42 : decode cX2_rule 42 = .ok (.bipush 14, 2) := by decide +kernel
theorem dX2_rule_44 : decode cX2_rule 44 = .ok (.if_icmp .ne 27, 3) := by decide +kernel
theorem dX2_rule_47 : decode cX2_rule 47 = .ok (.aload_n 0, 1) := by decide +kernel
theorem dX2_rule_48 : decode cX2_rule 48 = .ok (.invokevirtual 93, 3) := by decide +kernel
theorem dX2_rule_51 : decode cX2_rule 51 = .ok (.aload_n 0, 1) := by decide +kernel
theorem dX2_rule_52 : decode cX2_rule 52 = .ok (.iload_n 2, 1) := by decide +kernel
theorem dX2_rule_53 : decode cX2_rule 53 = .ok (.iload_n 3, 1) := by decide +kernel
theorem dX2_rule_54 : decode cX2_rule 54 = .ok (.invokevirtual 96, 3) := by decide +kernel
theorem dX2_rule_57 : decode cX2_rule 57 = .ok (.istore 4, 2) := by decide +kernel
theorem dX2_rule_59 : decode cX2_rule 59 = .ok (.aload_n 0, 1) := by decide +kernel
theorem dX2_rule_60 : decode cX2_rule 60 = .ok (.invokevirtual 100, 3) := by decide +kernel
theorem dX2_rule_63 : decode cX2_rule 63 = .ok (.ifCond .eq 8, 3) := by decide +kernel
theorem dX2_rule_66 : decode cX2_rule 66 = .ok (.aload_n 0, 1) := by decide +kernel
theorem dX2_rule_67 : decode cX2_rule 67 = .ok (.invokevirtual 104, 3) := by decide +kernel
theorem dX2_rule_70 : decode cX2_rule 70 = .ok (.ireturn, 1) := by decide +kernel
theorem dX2_rule_71 : decode cX2_rule 71 = .ok (.iload_n 1, 1) := by decide +kernel
theorem dX2_rule_72 : decode cX2_rule 72 = .ok (.bipush 6, 2) := by decide +kernel
theorem dX2_rule_74 : decode cX2_rule 74 = .ok (.if_icmp .ne 12, 3) := by decide +kernel
theorem dX2_rule_77 : decode cX2_rule 77 = .ok (.aload_n 0, 1) := by decide +kernel
theorem dX2_rule_78 : decode cX2_rule 78 = .ok (.getfield 17, 3) := by decide +kernel
theorem dX2_rule_81 : decode cX2_rule 81 = .ok (.iload_n 2, 1) := by decide +kernel
theorem dX2_rule_82 : decode cX2_rule 82 = .ok (.aaload, 1) := by decide +kernel
theorem dX2_rule_83 : decode cX2_rule 83 = .ok (.goto 4, 3) := by decide +kernel
theorem dX2_rule_86 : decode cX2_rule 86 = .ok (.aconst_null, 1) := by decide +kernel
theorem dX2_rule_87 : decode cX2_rule 87 = .ok (.astore 5, 2) := by decide +kernel
theorem dX2_rule_89 : decode cX2_rule 89 = .ok (.aload_n 0, 1) := by decide +kernel
theorem dX2_rule_90 : decode cX2_rule 90 = .ok (.getfield 23, 3) := by decide +kernel
theorem dX2_rule_93 : decode cX2_rule 93 = .ok (.aload_n 0, 1) := by decide +kernel
theorem dX2_rule_94 : decode cX2_rule 94 = .ok (.getfield 27, 3) := by decide +kernel
theorem dX2_rule_97 : decode cX2_rule 97 = .ok (.new 21, 3) := by decide +kernel
theorem dX2_rule_100 : decode cX2_rule 100 = .ok (.dup, 1) := by decide +kernel
theorem dX2_rule_101 : decode cX2_rule 101 = .ok (.iload_n 1, 1) := by decide +kernel
theorem dX2_rule_102 : decode cX2_rule 102 = .ok (.iload_n 2, 1) := by decide +kernel
theorem dX2_rule_103 : decode cX2_rule 103 = .ok (.iload_n 3, 1) := by decide +kernel
theorem dX2_rule_104 : decode cX2_rule 104 = .ok (.iload 4, 2) := by decide +kernel
theorem dX2_rule_106 : decode cX2_rule 106 = .ok (.aload 5, 2) := by decide +kernel
theorem dX2_rule_108 : decode cX2_rule 108 = .ok (.invokespecial 108, 3) := by decide +kernel
theorem dX2_rule_111 : decode cX2_rule 111 = .ok (.aastore, 1) := by decide +kernel
theorem dX2_rule_112 : decode cX2_rule 112 = .ok (.aload_n 0, 1) := by decide +kernel
theorem dX2_rule_113 : decode cX2_rule 113 = .ok (.dup, 1) := by decide +kernel
theorem dX2_rule_114 : decode cX2_rule 114 = .ok (.getfield 27, 3) := by decide +kernel
theorem dX2_rule_117 : decode cX2_rule 117 = .ok (.iconst 1, 1) := by decide +kernel
theorem dX2_rule_118 : decode cX2_rule 118 = .ok (.iadd, 1) := by decide +kernel
theorem dX2_rule_119 : decode cX2_rule 119 = .ok (.putfield 27, 3) := by decide +kernel
theorem dX2_rule_122 : decode cX2_rule 122 = .ok (.aload_n 0, 1) := by decide +kernel
theorem dX2_rule_123 : decode cX2_rule 123 = .ok (.getfield 27, 3) := by decide +kernel
theorem dX2_rule_126 : decode cX2_rule 126 = .ok (.iconst 1, 1) := by decide +kernel
theorem dX2_rule_127 : decode cX2_rule 127 = .ok (.isub, 1) := by decide +kernel
theorem dX2_rule_128 : decode cX2_rule 128 = .ok (.ireturn, 1) := by decide +kernel
set_option maxRecDepth 20000 in
theorem ggX2_apply_X2_isRule : GoodIn wsX2_apply wsX2_isRule := goodIn_r _ [6, 7, 75, 76, 77, 78, 79, 80, 81, 82, 83, 84, 85, 86, 87, 88, 89, 90] (by decide +kernel) (by decide +kernel)
set_option maxRecDepth 20000 in
theorem gX2_apply_X2_isRule : GoodIn wsX2_apply (wsV RX2 111 RX2 yX2_isRule wsX2_isRule) := goodIn_app (goodIn_of _ (by decide +kernel)) ggX2_apply_X2_isRule
set_option maxRecDepth 20000 in
theorem ggX2_apply_X2_begin : GoodIn wsX2_apply wsX2_begin := goodIn_r _ [11, 12, 13, 75, 76, 77, 78, 79, 80, 81, 82, 83, 84, 85, 86, 87, 88, 89, 90] (by decide +kernel) (by decide +kernel)
set_option maxRecDepth 20000 in
theorem gX2_apply_X2_begin : GoodIn wsX2_apply (wsV RX2 93 RX2 yX2_begin wsX2_begin) := goodIn_app (goodIn_of _ (by decide +kernel)) ggX2_apply_X2_begin
set_option maxRecDepth 20000 in
theorem ggX2_apply_X2_give : GoodIn wsX2_apply wsX2_give := goodIn_r _ [17, 12, 18, 19, 20, 21, 22, 23, 24, 25, 26, 27, 28, 29, 5, 30, 13, 31, 32, 33, 34, 35, 36, 37, 38, 39, 40, 41, 42, 43, 44, 45, 46, 47, 48, 49, 50, 51, 52, 53, 54, 55, 14, 15, 16, 56, 57, 58, 59, 60, 61, 62, 63, 64, 75, 76, 77, 78, 79, 80, 81, 82, 83, 84, 85, 86, 87, 88, 89, 90, 91, 92, 93, 94, 95, 96, 97] (by decide +kernel) (by decide +kernel)
set_option maxRecDepth 20000 in
theorem gX2_apply_X2_give : GoodIn wsX2_apply (wsV RX2 96 RX2 yX2_give wsX2_give) := goodIn_app (goodIn_of _ (by decide +kernel)) ggX2_apply_X2_give
set_option maxRecDepth 20000 in
theorem ggX2_apply_X2_isRefused : GoodIn wsX2_apply wsX2_isRefused := goodIn_r _ [59, 13, 75, 76, 77, 78, 79, 80, 81, 82, 83, 84, 85, 86, 87, 88, 89, 90] (by decide +kernel) (by decide +kernel)
set_option maxRecDepth 20000 in
theorem gX2_apply_X2_isRefused : GoodIn wsX2_apply (wsV RX2 100 RX2 yX2_isRefused wsX2_isRefused) := goodIn_app (goodIn_of _ (by decide +kernel)) ggX2_apply_X2_isRefused
set_option maxRecDepth 20000 in
theorem ggX2_apply_X2_fail : GoodIn wsX2_apply wsX2_fail := goodIn_r _ [68, 13, 69, 31, 70, 71, 72, 73, 5, 74, 75, 76, 77, 78, 79, 80, 81, 82, 83, 84, 85, 86, 87, 88, 89, 90] (by decide +kernel) (by decide +kernel)
set_option maxRecDepth 20000 in
theorem gX2_apply_X2_fail : GoodIn wsX2_apply (wsV RX2 104 RX2 yX2_fail wsX2_fail) := goodIn_app (goodIn_of _ (by decide +kernel)) ggX2_apply_X2_fail
theorem dX2_apply_0 : decode cX2_apply 0 = .ok (.aload_n 0, 1) := by decide +kernel
theorem dX2_apply_1 : decode cX2_apply 1 = .ok (.iload_n 1, 1) := by decide +kernel
theorem dX2_apply_2 : decode cX2_apply 2 = .ok (.invokevirtual 111, 3) := by decide +kernel
theorem dX2_apply_5 : decode cX2_apply 5 = .ok (.ifCond .ne 5, 3) := by decide +kernel
theorem dX2_apply_8 : decode cX2_apply 8 = .ok (.iconst (-1), 1) := by decide +kernel
theorem dX2_apply_9 : decode cX2_apply 9 = .ok (.ireturn, 1) := by decide +kernel
theorem dX2_apply_10 : decode cX2_apply 10 = .ok (.aload_n 0, 1) := by decide +kernel
theorem dX2_apply_11 : decode cX2_apply 11 = .ok (.invokevirtual 93, 3) := by decide +kernel
theorem dX2_apply_14 : decode cX2_apply 14 = .ok (.aload_n 0, 1) := by decide +kernel
theorem dX2_apply_15 : decode cX2_apply 15 = .ok (.iload_n 1, 1) := by decide +kernel
theorem dX2_apply_16 : decode cX2_apply 16 = .ok (.iload_n 2, 1) := by decide +kernel
theorem dX2_apply_17 : decode cX2_apply 17 = .ok (.invokevirtual 96, 3) := by decide +kernel
theorem dX2_apply_20 : decode cX2_apply 20 = .ok (.istore_n 3, 1) := by decide +kernel
theorem dX2_apply_21 : decode cX2_apply 21 = .ok (.aload_n 0, 1) := by decide +kernel
theorem dX2_apply_22 : decode cX2_apply 22 = .ok (.invokevirtual 100, 3) := by decide +kernel
theorem dX2_apply_25 : decode cX2_apply 25 = .ok (.ifCond .eq 8, 3) := by decide +kernel
theorem dX2_apply_28 : decode cX2_apply 28 = .ok (.aload_n 0, 1) := by decide +kernel
theorem dX2_apply_29 : decode cX2_apply 29 = .ok (.invokevirtual 104, 3) := by decide +kernel
theorem dX2_apply_32 : decode cX2_apply 32 = .ok (.ireturn, 1) := by decide +kernel
theorem dX2_apply_33 : decode cX2_apply 33 = .ok (.aload_n 0, 1) := by decide +kernel
theorem dX2_apply_34 : decode cX2_apply 34 = .ok (.iload_n 3, 1) := by decide +kernel
theorem dX2_apply_35 : decode cX2_apply 35 = .ok (.putfield 46, 3) := by decide +kernel
theorem dX2_apply_38 : decode cX2_apply 38 = .ok (.iconst 1, 1) := by decide +kernel
theorem dX2_apply_39 : decode cX2_apply 39 = .ok (.ireturn, 1) := by decide +kernel
set_option maxRecDepth 20000 in
theorem ggX2_each_X2_isRule : GoodIn wsX2_each wsX2_isRule := goodIn_r _ [7, 8, 77, 78, 79, 80, 81, 82, 83, 84, 85, 86, 87, 88, 89, 90, 91, 92] (by decide +kernel) (by decide +kernel)
set_option maxRecDepth 20000 in
theorem gX2_each_X2_isRule : GoodIn wsX2_each (wsV RX2 111 RX2 yX2_isRule wsX2_isRule) := goodIn_app (goodIn_of _ (by decide +kernel)) ggX2_each_X2_isRule
set_option maxRecDepth 20000 in
theorem ggX2_each_X2_isRow : GoodIn wsX2_each wsX2_isRow := goodIn_r _ [11] (by decide +kernel) (by decide +kernel)
set_option maxRecDepth 20000 in
theorem gX2_each_X2_isRow : GoodIn wsX2_each (va_wsS RX2 73 yX2_isRow wsX2_isRow) := goodIn_app (goodIn_of _ (by decide +kernel)) ggX2_each_X2_isRow
set_option maxRecDepth 20000 in
theorem ggX2_each_X2_failureAnswer : GoodIn wsX2_each wsX2_failureAnswer := goodIn_r _ [14] (by decide +kernel) (by decide +kernel)
set_option maxRecDepth 20000 in
theorem gX2_each_X2_failureAnswer : GoodIn wsX2_each (va_wsS RX2 79 yX2_failureAnswer wsX2_failureAnswer) := goodIn_app (goodIn_of _ (by decide +kernel)) ggX2_each_X2_failureAnswer
set_option maxRecDepth 20000 in
theorem ggX2_each_X2_begin : GoodIn wsX2_each wsX2_begin := goodIn_r _ [18, 19, 20, 77, 78, 79, 80, 81, 82, 83, 84, 85, 86, 87, 88, 89, 90, 91, 92] (by decide +kernel) (by decide +kernel)
set_option maxRecDepth 20000 in
theorem gX2_each_X2_begin : GoodIn wsX2_each (wsV RX2 93 RX2 yX2_begin wsX2_begin) := goodIn_app (goodIn_of _ (by decide +kernel)) ggX2_each_X2_begin
set_option maxRecDepth 20000 in
theorem ggX2_each_X2_give : GoodIn wsX2_each wsX2_give := goodIn_r _ [24, 19, 25, 26, 27, 28, 29, 30, 31, 1, 32, 33, 34, 35, 6, 36, 20, 37, 38, 39, 40, 41, 2, 42, 43, 44, 45, 46, 47, 48, 49, 50, 51, 52, 53, 54, 55, 56, 57, 58, 59, 60, 21, 22, 23, 61, 62, 63, 64, 65, 66, 67, 68, 69, 77, 78, 79, 80, 81, 82, 83, 84, 85, 86, 87, 88, 89, 90, 91, 92, 94, 95, 96, 97, 98, 99, 93] (by decide +kernel) (by decide +kernel)
set_option maxRecDepth 20000 in
theorem gX2_each_X2_give : GoodIn wsX2_each (wsV RX2 96 RX2 yX2_give wsX2_give) := goodIn_app (goodIn_of _ (by decide +kernel)) ggX2_each_X2_give
set_option maxRecDepth 20000 in
theorem ggX2_each_X2_isRefused : GoodIn wsX2_each wsX2_isRefused := goodIn_r _ [64, 20, 77, 78, 79, 80, 81, 82, 83, 84, 85, 86, 87, 88, 89, 90, 91, 92] (by decide +kernel) (by decide +kernel)
set_option maxRecDepth 20000 in
theorem gX2_each_X2_isRefused : GoodIn wsX2_each (wsV RX2 100 RX2 yX2_isRefused wsX2_isRefused) := goodIn_app (goodIn_of _ (by decide +kernel)) ggX2_each_X2_isRefused
set_option maxRecDepth 20000 in
theorem ggX2_each_X2_fail : GoodIn wsX2_each wsX2_fail := goodIn_r _ [73, 20, 74, 37, 75, 76, 12, 13, 6, 14, 77, 78, 79, 80, 81, 82, 83, 84, 85, 86, 87, 88, 89, 90, 91, 92] (by decide +kernel) (by decide +kernel)
set_option maxRecDepth 20000 in
theorem gX2_each_X2_fail : GoodIn wsX2_each (wsV RX2 104 RX2 yX2_fail wsX2_fail) := goodIn_app (goodIn_of _ (by decide +kernel)) ggX2_each_X2_fail
theorem dX2_each_0 : decode cX2_each 0 = .ok (.aload_n 0, 1) := by decide +kernel
theorem dX2_each_1 : decode cX2_each 1 = .ok (.iload_n 1, 1) := by decide +kernel
theorem dX2_each_2 : decode cX2_each 2 = .ok (.invokevirtual 111, 3) := by decide +kernel
theorem dX2_each_5 : decode cX2_each 5 = .ok (.ifCond .eq 10, 3) := by decide +kernel
theorem dX2_each_8 : decode cX2_each 8 = .ok (.iload_n 2, 1) := by decide +kernel
theorem dX2_each_9 : decode cX2_each 9 = .ok (.invokestatic 73, 3) := by decide +kernel
theorem dX2_each_12 : decode cX2_each 12 = .ok (.ifCond .ne 5, 3) := by decide +kernel
theorem dX2_each_15 : decode cX2_each 15 = .ok (.iconst (-1), 1) := by decide +kernel
theorem dX2_each_16 : decode cX2_each 16 = .ok (.ireturn, 1) := by decide +kernel
theorem dX2_each_17 : decode cX2_each 17 = .ok (.aload_n 0, 1) := by decide +kernel
theorem dX2_each_18 : decode cX2_each 18 = .ok (.getfield 17, 3) := by decide +kernel
theorem dX2_each_21 : decode cX2_each 21 = .ok (.iload_n 2, 1) := by decide +kernel
theorem dX2_each_22 : decode cX2_each 22 = .ok (.aaload, 1) := by decide +kernel
theorem dX2_each_23 : decode cX2_each 23 = .ok (.astore_n 3, 1) := by decide +kernel
theorem dX2_each_24 : decode cX2_each 24 = .ok (.aload_n 3, 1) := by decide +kernel
theorem dX2_each_25 : decode cX2_each 25 = .ok (.ifnonnull 8, 3) := by decide +kernel
theorem dX2_each_28 : decode cX2_each 28 = .ok (.iconst 3, 1) := by decide +kernel
theorem dX2_each_29 : decode cX2_each 29 = .ok (.invokestatic 79, 3) := by decide +kernel
theorem dX2_each_32 : decode cX2_each 32 = .ok (.ireturn, 1) := by decide +kernel
theorem dX2_each_33 : decode cX2_each 33 = .ok (.aload_n 0, 1) := by decide +kernel
theorem dX2_each_34 : decode cX2_each 34 = .ok (.invokevirtual 93, 3) := by decide +kernel
theorem dX2_each_37 : decode cX2_each 37 = .ok (.aload_n 3, 1) := by decide +kernel
theorem dX2_each_38 : decode cX2_each 38 = .ok (.getfield 86, 3) := by decide +kernel
theorem dX2_each_41 : decode cX2_each 41 = .ok (.astore 4, 2) := by decide +kernel
theorem dX2_each_43 : decode cX2_each 43 = .ok (.iconst 0, 1) := by decide +kernel
theorem dX2_each_44 : decode cX2_each 44 = .ok (.istore 5, 2) := by decide +kernel
theorem dX2_each_46 : decode cX2_each 46 = .ok (.iload 5, 2) := by decide +kernel
theorem dX2_each_48 : decode cX2_each 48 = .ok (.aload 4, 2) := by decide +kernel
theorem dX2_each_50 : decode cX2_each 50 = .ok (.arraylength, 1) := by decide +kernel
theorem dX2_each_51 : decode cX2_each 51 = .ok (.if_icmp .ge 40, 3) := by decide +kernel
theorem dX2_each_54 : decode cX2_each 54 = .ok (.aload_n 0, 1) := by decide +kernel
theorem dX2_each_55 : decode cX2_each 55 = .ok (.iload_n 1, 1) := by decide +kernel
theorem dX2_each_56 : decode cX2_each 56 = .ok (.aload 4, 2) := by decide +kernel
theorem dX2_each_58 : decode cX2_each 58 = .ok (.iload 5, 2) := by decide +kernel
theorem dX2_each_60 : decode cX2_each 60 = .ok (.iaload, 1) := by decide +kernel
theorem dX2_each_61 : decode cX2_each 61 = .ok (.invokevirtual 96, 3) := by decide +kernel
theorem dX2_each_64 : decode cX2_each 64 = .ok (.istore 6, 2) := by decide +kernel
theorem dX2_each_66 : decode cX2_each 66 = .ok (.aload_n 0, 1) := by decide +kernel
theorem dX2_each_67 : decode cX2_each 67 = .ok (.invokevirtual 100, 3) := by decide +kernel
theorem dX2_each_70 : decode cX2_each 70 = .ok (.ifCond .eq 8, 3) := by decide +kernel
theorem dX2_each_73 : decode cX2_each 73 = .ok (.aload_n 0, 1) := by decide +kernel
theorem dX2_each_74 : decode cX2_each 74 = .ok (.invokevirtual 104, 3) := by decide +kernel
theorem dX2_each_77 : decode cX2_each 77 = .ok (.ireturn, 1) := by decide +kernel
theorem dX2_each_78 : decode cX2_each 78 = .ok (.aload 4, 2) := by decide +kernel
theorem dX2_each_80 : decode cX2_each 80 = .ok (.iload 5, 2) := by decide +kernel
theorem dX2_each_82 : decode cX2_each 82 = .ok (.iload 6, 2) := by decide +kernel
theorem dX2_each_84 : decode cX2_each 84 = .ok (.iastore, 1) := by decide +kernel
theorem dX2_each_85 : decode cX2_each 85 = .ok (.iinc 5 1, 3) := by decide +kernel
theorem dX2_each_88 : decode cX2_each 88 = .ok (.goto (-42), 3) := by decide +kernel
theorem dX2_each_91 : decode cX2_each 91 = .ok (.aload 4, 2) := by decide +kernel
theorem dX2_each_93 : decode cX2_each 93 = .ok (.arraylength, 1) := by decide +kernel
theorem dX2_each_94 : decode cX2_each 94 = .ok (.ireturn, 1) := by decide +kernel
set_option maxRecDepth 20000 in
theorem ggX2_keep_X2_isRule : GoodIn wsX2_keep wsX2_isRule := goodIn_r _ [11, 12, 102, 103, 104, 105, 106, 107, 108, 109, 110, 111, 112, 113, 114, 115, 116, 117] (by decide +kernel) (by decide +kernel)
set_option maxRecDepth 20000 in
theorem gX2_keep_X2_isRule : GoodIn wsX2_keep (wsV RX2 111 RX2 yX2_isRule wsX2_isRule) := goodIn_app (goodIn_of _ (by decide +kernel)) ggX2_keep_X2_isRule
set_option maxRecDepth 20000 in
theorem ggX2_keep_X2_isRow : GoodIn wsX2_keep wsX2_isRow := goodIn_r _ [15] (by decide +kernel) (by decide +kernel)
set_option maxRecDepth 20000 in
theorem gX2_keep_X2_isRow : GoodIn wsX2_keep (va_wsS RX2 73 yX2_isRow wsX2_isRow) := goodIn_app (goodIn_of _ (by decide +kernel)) ggX2_keep_X2_isRow
set_option maxRecDepth 20000 in
theorem ggX2_keep_X2_failureAnswer : GoodIn wsX2_keep wsX2_failureAnswer := goodIn_r _ [18] (by decide +kernel) (by decide +kernel)
set_option maxRecDepth 20000 in
theorem gX2_keep_X2_failureAnswer : GoodIn wsX2_keep (va_wsS RX2 79 yX2_failureAnswer wsX2_failureAnswer) := goodIn_app (goodIn_of _ (by decide +kernel)) ggX2_keep_X2_failureAnswer
set_option maxRecDepth 20000 in
theorem ggX2_keep_X2_begin : GoodIn wsX2_keep wsX2_begin := goodIn_r _ [22, 23, 24, 102, 103, 104, 105, 106, 107, 108, 109, 110, 111, 112, 113, 114, 115, 116, 117] (by decide +kernel) (by decide +kernel)
set_option maxRecDepth 20000 in
theorem gX2_keep_X2_begin : GoodIn wsX2_keep (wsV RX2 93 RX2 yX2_begin wsX2_begin) := goodIn_app (goodIn_of _ (by decide +kernel)) ggX2_keep_X2_begin
set_option maxRecDepth 20000 in
theorem ggX2_keep_X2_give : GoodIn wsX2_keep wsX2_give := goodIn_r _ [28, 23, 29, 30, 31, 32, 33, 34, 35, 1, 36, 37, 38, 39, 10, 40, 24, 41, 42, 43, 44, 45, 2, 46, 47, 48, 6, 49, 50, 51, 52, 53, 54, 55, 56, 57, 58, 59, 60, 61, 62, 63, 25, 26, 27, 64, 65, 66, 67, 68, 69, 70, 71, 72, 102, 103, 104, 105, 106, 107, 108, 109, 110, 111, 112, 113, 114, 115, 116, 117, 119, 120, 121, 122, 123, 124, 118] (by decide +kernel) (by decide +kernel)
set_option maxRecDepth 20000 in
theorem gX2_keep_X2_give : GoodIn wsX2_keep (wsV RX2 96 RX2 yX2_give wsX2_give) := goodIn_app (goodIn_of _ (by decide +kernel)) ggX2_keep_X2_give
set_option maxRecDepth 20000 in
theorem ggX2_keep_X2_isRefused : GoodIn wsX2_keep wsX2_isRefused := goodIn_r _ [67, 24, 102, 103, 104, 105, 106, 107, 108, 109, 110, 111, 112, 113, 114, 115, 116, 117] (by decide +kernel) (by decide +kernel)
set_option maxRecDepth 20000 in
theorem gX2_keep_X2_isRefused : GoodIn wsX2_keep (wsV RX2 100 RX2 yX2_isRefused wsX2_isRefused) := goodIn_app (goodIn_of _ (by decide +kernel)) ggX2_keep_X2_isRefused
set_option maxRecDepth 20000 in
theorem ggX2_keep_X2_fail : GoodIn wsX2_keep wsX2_fail := goodIn_r _ [76, 24, 77, 41, 78, 79, 16, 17, 10, 18, 102, 103, 104, 105, 106, 107, 108, 109, 110, 111, 112, 113, 114, 115, 116, 117] (by decide +kernel) (by decide +kernel)
set_option maxRecDepth 20000 in
theorem gX2_keep_X2_fail : GoodIn wsX2_keep (wsV RX2 104 RX2 yX2_fail wsX2_fail) := goodIn_app (goodIn_of _ (by decide +kernel)) ggX2_keep_X2_fail
set_option maxRecDepth 20000 in
theorem ggX2_keep_J7_copyOf_59c91 : GoodIn wsX2_keep wsJ7_copyOf_59c91 := goodIn_r _ [83, 84, 85, 86, 87, 88, 89, 90, 91, 61, 62, 63, 92, 93, 94, 95] (by decide +kernel) (by decide +kernel)
set_option maxRecDepth 20000 in
theorem gX2_keep_J7_copyOf_59c91 : GoodIn wsX2_keep (va_wsS RX2 114 yJ7_copyOf_59c91 wsJ7_copyOf_59c91) := goodIn_app (goodIn_of _ (by decide +kernel)) ggX2_keep_J7_copyOf_59c91
set_option maxRecDepth 20000 in
theorem ggX2_keep_X0_init : GoodIn wsX2_keep wsX0_init := goodIn_r _ [98, 99, 100, 101, 50, 118] (by decide +kernel) (by decide +kernel)
set_option maxRecDepth 20000 in
theorem gX2_keep_X0_init : GoodIn wsX2_keep (wsX0_init) := ggX2_keep_X0_init
theorem dX2_keep_0 : decode cX2_keep 0 = .ok (.aload_n 0, 1) := by decide +kernel
theorem dX2_keep_1 : decode cX2_keep 1 = .ok (.iload_n 1, 1) := by decide +kernel
theorem dX2_keep_2 : decode cX2_keep 2 = .ok (.invokevirtual 111, 3) := by decide +kernel
theorem dX2_keep_5 : decode cX2_keep 5 = .ok (.ifCond .eq 10, 3) := by decide +kernel
theorem dX2_keep_8 : decode cX2_keep 8 = .ok (.iload_n 2, 1) := by decide +kernel
theorem dX2_keep_9 : decode cX2_keep 9 = .ok (.invokestatic 73, 3) := by decide +kernel
theorem dX2_keep_12 : decode cX2_keep 12 = .ok (.ifCond .ne 5, 3) := by decide +kernel
theorem dX2_keep_15 : decode cX2_keep 15 = .ok (.iconst (-1), 1) := by decide +kernel
theorem dX2_keep_16 : decode cX2_keep 16 = .ok (.ireturn, 1) := by decide +kernel
theorem dX2_keep_17 : decode cX2_keep 17 = .ok (.aload_n 0, 1) := by decide +kernel
theorem dX2_keep_18 : decode cX2_keep 18 = .ok (.getfield 17, 3) := by decide +kernel
theorem dX2_keep_21 : decode cX2_keep 21 = .ok (.iload_n 2, 1) := by decide +kernel
theorem dX2_keep_22 : decode cX2_keep 22 = .ok (.aaload, 1) := by decide +kernel
theorem dX2_keep_23 : decode cX2_keep 23 = .ok (.astore_n 3, 1) := by decide +kernel
theorem dX2_keep_24 : decode cX2_keep 24 = .ok (.aload_n 3, 1) := by decide +kernel
theorem dX2_keep_25 : decode cX2_keep 25 = .ok (.ifnonnull 8, 3) := by decide +kernel
theorem dX2_keep_28 : decode cX2_keep 28 = .ok (.iconst 3, 1) := by decide +kernel
theorem dX2_keep_29 : decode cX2_keep 29 = .ok (.invokestatic 79, 3) := by decide +kernel
theorem dX2_keep_32 : decode cX2_keep 32 = .ok (.ireturn, 1) := by decide +kernel
theorem dX2_keep_33 : decode cX2_keep 33 = .ok (.aload_n 0, 1) := by decide +kernel
theorem dX2_keep_34 : decode cX2_keep 34 = .ok (.invokevirtual 93, 3) := by decide +kernel
theorem dX2_keep_37 : decode cX2_keep 37 = .ok (.aload_n 3, 1) := by decide +kernel
theorem dX2_keep_38 : decode cX2_keep 38 = .ok (.getfield 86, 3) := by decide +kernel
theorem dX2_keep_41 : decode cX2_keep 41 = .ok (.astore 4, 2) := by decide +kernel
theorem dX2_keep_43 : decode cX2_keep 43 = .ok (.iconst 0, 1) := by decide +kernel
theorem dX2_keep_44 : decode cX2_keep 44 = .ok (.istore 5, 2) := by decide +kernel
theorem dX2_keep_46 : decode cX2_keep 46 = .ok (.iconst 0, 1) := by decide +kernel
theorem dX2_keep_47 : decode cX2_keep 47 = .ok (.istore 6, 2) := by decide +kernel
theorem dX2_keep_49 : decode cX2_keep 49 = .ok (.iload 6, 2) := by decide +kernel
theorem dX2_keep_51 : decode cX2_keep 51 = .ok (.aload 4, 2) := by decide +kernel
theorem dX2_keep_53 : decode cX2_keep 53 = .ok (.arraylength, 1) := by decide +kernel
theorem dX2_keep_54 : decode cX2_keep 54 = .ok (.if_icmp .ge 53, 3) := by decide +kernel
theorem dX2_keep_57 : decode cX2_keep 57 = .ok (.aload_n 0, 1) := by decide +kernel
theorem dX2_keep_58 : decode cX2_keep 58 = .ok (.iload_n 1, 1) := by decide +kernel
theorem dX2_keep_59 : decode cX2_keep 59 = .ok (.aload 4, 2) := by decide +kernel
theorem dX2_keep_61 : decode cX2_keep 61 = .ok (.iload 6, 2) := by decide +kernel
theorem dX2_keep_63 : decode cX2_keep 63 = .ok (.iaload, 1) := by decide +kernel
theorem dX2_keep_64 : decode cX2_keep 64 = .ok (.invokevirtual 96, 3) := by decide +kernel
theorem dX2_keep_67 : decode cX2_keep 67 = .ok (.istore 7, 2) := by decide +kernel
theorem dX2_keep_69 : decode cX2_keep 69 = .ok (.aload_n 0, 1) := by decide +kernel
theorem dX2_keep_70 : decode cX2_keep 70 = .ok (.invokevirtual 100, 3) := by decide +kernel
theorem dX2_keep_73 : decode cX2_keep 73 = .ok (.ifCond .eq 8, 3) := by decide +kernel
theorem dX2_keep_76 : decode cX2_keep 76 = .ok (.aload_n 0, 1) := by decide +kernel
theorem dX2_keep_77 : decode cX2_keep 77 = .ok (.invokevirtual 104, 3) := by decide +kernel
theorem dX2_keep_80 : decode cX2_keep 80 = .ok (.ireturn, 1) := by decide +kernel
theorem dX2_keep_81 : decode cX2_keep 81 = .ok (.iload 7, 2) := by decide +kernel
theorem dX2_keep_83 : decode cX2_keep 83 = .ok (.ifCond .eq 18, 3) := by decide +kernel
theorem dX2_keep_86 : decode cX2_keep 86 = .ok (.aload_n 0, 1) := by decide +kernel
theorem dX2_keep_87 : decode cX2_keep 87 = .ok (.getfield 31, 3) := by decide +kernel
theorem dX2_keep_90 : decode cX2_keep 90 = .ok (.iload 5, 2) := by decide +kernel
theorem dX2_keep_92 : decode cX2_keep 92 = .ok (.aload 4, 2) := by decide +kernel
theorem dX2_keep_94 : decode cX2_keep 94 = .ok (.iload 6, 2) := by decide +kernel
theorem dX2_keep_96 : decode cX2_keep 96 = .ok (.iaload, 1) := by decide +kernel
theorem dX2_keep_97 : decode cX2_keep 97 = .ok (.iastore, 1) := by decide +kernel
theorem dX2_keep_98 : decode cX2_keep 98 = .ok (.iinc 5 1, 3) := by decide +kernel
theorem dX2_keep_101 : decode cX2_keep 101 = .ok (.iinc 6 1, 3) := by decide +kernel
theorem dX2_keep_104 : decode cX2_keep 104 = .ok (.goto (-55), 3) := by decide +kernel
theorem dX2_keep_107 : decode cX2_keep 107 = .ok (.aload_n 0, 1) := by decide +kernel
theorem dX2_keep_108 : decode cX2_keep 108 = .ok (.getfield 17, 3) := by decide +kernel
theorem dX2_keep_111 : decode cX2_keep 111 = .ok (.iload_n 2, 1) := by decide +kernel
theorem dX2_keep_112 : decode cX2_keep 112 = .ok (.new 15, 3) := by decide +kernel
theorem dX2_keep_115 : decode cX2_keep 115 = .ok (.dup, 1) := by decide +kernel
theorem dX2_keep_116 : decode cX2_keep 116 = .ok (.aload_n 0, 1) := by decide +kernel
theorem dX2_keep_117 : decode cX2_keep 117 = .ok (.getfield 31, 3) := by decide +kernel
theorem dX2_keep_120 : decode cX2_keep 120 = .ok (.iload 5, 2) := by decide +kernel
theorem dX2_keep_122 : decode cX2_keep 122 = .ok (.invokestatic 114, 3) := by decide +kernel
theorem dX2_keep_125 : decode cX2_keep 125 = .ok (.invokespecial 76, 3) := by decide +kernel
theorem dX2_keep_128 : decode cX2_keep 128 = .ok (.aastore, 1) := by decide +kernel
theorem dX2_keep_129 : decode cX2_keep 129 = .ok (.iload 5, 2) := by decide +kernel
theorem dX2_keep_131 : decode cX2_keep 131 = .ok (.ireturn, 1) := by decide +kernel
set_option maxRecDepth 20000 in
theorem ggX2_order_X2_isRule : GoodIn wsX2_order wsX2_isRule := goodIn_r _ [8, 9, 92, 93, 94, 95, 96, 97, 98, 99, 100, 101, 102, 103, 104, 105, 106, 107] (by decide +kernel) (by decide +kernel)
set_option maxRecDepth 20000 in
theorem gX2_order_X2_isRule : GoodIn wsX2_order (wsV RX2 111 RX2 yX2_isRule wsX2_isRule) := goodIn_app (goodIn_of _ (by decide +kernel)) ggX2_order_X2_isRule
set_option maxRecDepth 20000 in
theorem ggX2_order_X2_isRow : GoodIn wsX2_order wsX2_isRow := goodIn_r _ [12] (by decide +kernel) (by decide +kernel)
set_option maxRecDepth 20000 in
theorem gX2_order_X2_isRow : GoodIn wsX2_order (va_wsS RX2 73 yX2_isRow wsX2_isRow) := goodIn_app (goodIn_of _ (by decide +kernel)) ggX2_order_X2_isRow
set_option maxRecDepth 20000 in
theorem ggX2_order_X2_failureAnswer : GoodIn wsX2_order wsX2_failureAnswer := goodIn_r _ [15] (by decide +kernel) (by decide +kernel)
set_option maxRecDepth 20000 in
theorem gX2_order_X2_failureAnswer : GoodIn wsX2_order (va_wsS RX2 79 yX2_failureAnswer wsX2_failureAnswer) := goodIn_app (goodIn_of _ (by decide +kernel)) ggX2_order_X2_failureAnswer
set_option maxRecDepth 20000 in
theorem ggX2_order_X2_begin : GoodIn wsX2_order wsX2_begin := goodIn_r _ [19, 20, 21, 92, 93, 94, 95, 96, 97, 98, 99, 100, 101, 102, 103, 104, 105, 106, 107] (by decide +kernel) (by decide +kernel)
set_option maxRecDepth 20000 in
theorem gX2_order_X2_begin : GoodIn wsX2_order (wsV RX2 93 RX2 yX2_begin wsX2_begin) := goodIn_app (goodIn_of _ (by decide +kernel)) ggX2_order_X2_begin
set_option maxRecDepth 20000 in
theorem ggX2_order_X2_give : GoodIn wsX2_order wsX2_give := goodIn_r _ [25, 20, 26, 27, 28, 29, 30, 31, 32, 1, 33, 34, 35, 36, 7, 37, 21, 38, 39, 40, 41, 42, 2, 43, 44, 45, 46, 47, 48, 49, 50, 51, 52, 53, 54, 55, 56, 57, 58, 59, 60, 61, 22, 23, 24, 62, 63, 64, 65, 66, 67, 68, 69, 70, 92, 93, 94, 95, 96, 97, 98, 99, 100, 101, 102, 103, 104, 105, 106, 107, 109, 110, 111, 112, 113, 114, 108] (by decide +kernel) (by decide +kernel)
set_option maxRecDepth 20000 in
theorem gX2_order_X2_give : GoodIn wsX2_order (wsV RX2 96 RX2 yX2_give wsX2_give) := goodIn_app (goodIn_of _ (by decide +kernel)) ggX2_order_X2_give
set_option maxRecDepth 20000 in
theorem ggX2_order_X2_isRefused : GoodIn wsX2_order wsX2_isRefused := goodIn_r _ [65, 21, 92, 93, 94, 95, 96, 97, 98, 99, 100, 101, 102, 103, 104, 105, 106, 107] (by decide +kernel) (by decide +kernel)
set_option maxRecDepth 20000 in
theorem gX2_order_X2_isRefused : GoodIn wsX2_order (wsV RX2 100 RX2 yX2_isRefused wsX2_isRefused) := goodIn_app (goodIn_of _ (by decide +kernel)) ggX2_order_X2_isRefused
set_option maxRecDepth 20000 in
theorem ggX2_order_X2_fail : GoodIn wsX2_order wsX2_fail := goodIn_r _ [74, 21, 75, 38, 76, 77, 13, 14, 7, 15, 92, 93, 94, 95, 96, 97, 98, 99, 100, 101, 102, 103, 104, 105, 106, 107] (by decide +kernel) (by decide +kernel)
set_option maxRecDepth 20000 in
theorem gX2_order_X2_fail : GoodIn wsX2_order (wsV RX2 104 RX2 yX2_fail wsX2_fail) := goodIn_app (goodIn_of _ (by decide +kernel)) ggX2_order_X2_fail
set_option maxRecDepth 20000 in
theorem ggX2_order_X2_sortOrigins : GoodIn wsX2_order wsX2_sortOrigins := goodIn_r _ [81, 3, 82, 92, 93, 94, 95, 96, 97, 98, 99, 100, 101, 102, 103, 104, 105, 106, 107] (by decide +kernel) (by decide +kernel)
set_option maxRecDepth 20000 in
theorem gX2_order_X2_sortOrigins : GoodIn wsX2_order (wsV RX2 120 RX2 yX2_sortOrigins wsX2_sortOrigins) := goodIn_app (goodIn_of _ (by decide +kernel)) ggX2_order_X2_sortOrigins
set_option maxRecDepth 20000 in
theorem ggX2_order_X2_moveByOrigins : GoodIn wsX2_order wsX2_moveByOrigins := goodIn_r _ [86, 87, 82, 88, 89, 90, 91, 92, 93, 94, 95, 96, 97, 98, 99, 100, 101, 102, 103, 104, 105, 106, 107] (by decide +kernel) (by decide +kernel)
set_option maxRecDepth 20000 in
theorem gX2_order_X2_moveByOrigins : GoodIn wsX2_order (wsV RX2 124 RX2 yX2_moveByOrigins wsX2_moveByOrigins) := goodIn_app (goodIn_of _ (by decide +kernel)) ggX2_order_X2_moveByOrigins
theorem dX2_order_0 : decode cX2_order 0 = .ok (.aload_n 0, 1) := by decide +kernel
theorem dX2_order_1 : decode cX2_order 1 = .ok (.iload_n 1, 1) := by decide +kernel
theorem dX2_order_2 : decode cX2_order 2 = .ok (.invokevirtual 111, 3) := by decide +kernel
theorem dX2_order_5 : decode cX2_order 5 = .ok (.ifCond .eq 10, 3) := by decide +kernel
theorem dX2_order_8 : decode cX2_order 8 = .ok (.iload_n 2, 1) := by decide +kernel
theorem dX2_order_9 : decode cX2_order 9 = .ok (.invokestatic 73, 3) := by decide +kernel
theorem dX2_order_12 : decode cX2_order 12 = .ok (.ifCond .ne 5, 3) := by decide +kernel
theorem dX2_order_15 : decode cX2_order 15 = .ok (.iconst (-1), 1) := by decide +kernel
theorem dX2_order_16 : decode cX2_order 16 = .ok (.ireturn, 1) := by decide +kernel
theorem dX2_order_17 : decode cX2_order 17 = .ok (.aload_n 0, 1) := by decide +kernel
theorem dX2_order_18 : decode cX2_order 18 = .ok (.getfield 17, 3) := by decide +kernel
theorem dX2_order_21 : decode cX2_order 21 = .ok (.iload_n 2, 1) := by decide +kernel
theorem dX2_order_22 : decode cX2_order 22 = .ok (.aaload, 1) := by decide +kernel
theorem dX2_order_23 : decode cX2_order 23 = .ok (.astore_n 3, 1) := by decide +kernel
theorem dX2_order_24 : decode cX2_order 24 = .ok (.aload_n 3, 1) := by decide +kernel
theorem dX2_order_25 : decode cX2_order 25 = .ok (.ifnonnull 8, 3) := by decide +kernel
theorem dX2_order_28 : decode cX2_order 28 = .ok (.iconst 3, 1) := by decide +kernel
theorem dX2_order_29 : decode cX2_order 29 = .ok (.invokestatic 79, 3) := by decide +kernel
theorem dX2_order_32 : decode cX2_order 32 = .ok (.ireturn, 1) := by decide +kernel
theorem dX2_order_33 : decode cX2_order 33 = .ok (.aload_n 0, 1) := by decide +kernel
theorem dX2_order_34 : decode cX2_order 34 = .ok (.invokevirtual 93, 3) := by decide +kernel
theorem dX2_order_37 : decode cX2_order 37 = .ok (.aload_n 3, 1) := by decide +kernel
theorem dX2_order_38 : decode cX2_order 38 = .ok (.getfield 86, 3) := by decide +kernel
theorem dX2_order_41 : decode cX2_order 41 = .ok (.astore 4, 2) := by decide +kernel
theorem dX2_order_43 : decode cX2_order 43 = .ok (.iconst 0, 1) := by decide +kernel
theorem dX2_order_44 : decode cX2_order 44 = .ok (.istore 5, 2) := by decide +kernel
theorem dX2_order_46 : decode cX2_order 46 = .ok (.iload 5, 2) := by decide +kernel
theorem dX2_order_48 : decode cX2_order 48 = .ok (.aload 4, 2) := by decide +kernel
theorem dX2_order_50 : decode cX2_order 50 = .ok (.arraylength, 1) := by decide +kernel
theorem dX2_order_51 : decode cX2_order 51 = .ok (.if_icmp .ge 38, 3) := by decide +kernel
theorem dX2_order_54 : decode cX2_order 54 = .ok (.aload_n 0, 1) := by decide +kernel
theorem dX2_order_55 : decode cX2_order 55 = .ok (.getfield 34, 3) := by decide +kernel
theorem dX2_order_58 : decode cX2_order 58 = .ok (.iload 5, 2) := by decide +kernel
theorem dX2_order_60 : decode cX2_order 60 = .ok (.aload_n 0, 1) := by decide +kernel
theorem dX2_order_61 : decode cX2_order 61 = .ok (.iload_n 1, 1) := by decide +kernel
theorem dX2_order_62 : decode cX2_order 62 = .ok (.aload 4, 2) := by decide +kernel
theorem dX2_order_64 : decode cX2_order 64 = .ok (.iload 5, 2) := by decide +kernel
theorem dX2_order_66 : decode cX2_order 66 = .ok (.iaload, 1) := by decide +kernel
theorem dX2_order_67 : decode cX2_order 67 = .ok (.invokevirtual 96, 3) := by decide +kernel
theorem dX2_order_70 : decode cX2_order 70 = .ok (.iastore, 1) := by decide +kernel
theorem dX2_order_71 : decode cX2_order 71 = .ok (.aload_n 0, 1) := by decide +kernel
theorem dX2_order_72 : decode cX2_order 72 = .ok (.invokevirtual 100, 3) := by decide +kernel
theorem dX2_order_75 : decode cX2_order 75 = .ok (.ifCond .eq 8, 3) := by decide +kernel
theorem dX2_order_78 : decode cX2_order 78 = .ok (.aload_n 0, 1) := by decide +kernel
theorem dX2_order_79 : decode cX2_order 79 = .ok (.invokevirtual 104, 3) := by decide +kernel
theorem dX2_order_82 : decode cX2_order 82 = .ok (.ireturn, 1) := by decide +kernel
theorem dX2_order_83 : decode cX2_order 83 = .ok (.iinc 5 1, 3) := by decide +kernel
theorem dX2_order_86 : decode cX2_order 86 = .ok (.goto (-40), 3) := by decide +kernel
theorem dX2_order_89 : decode cX2_order 89 = .ok (.aload_n 0, 1) := by decide +kernel
theorem dX2_order_90 : decode cX2_order 90 = .ok (.aload 4, 2) := by decide +kernel
theorem dX2_order_92 : decode cX2_order 92 = .ok (.arraylength, 1) := by decide +kernel
theorem dX2_order_93 : decode cX2_order 93 = .ok (.invokevirtual 120, 3) := by decide +kernel
theorem dX2_order_96 : decode cX2_order 96 = .ok (.aload_n 0, 1) := by decide +kernel
theorem dX2_order_97 : decode cX2_order 97 = .ok (.aload 4, 2) := by decide +kernel
theorem dX2_order_99 : decode cX2_order 99 = .ok (.invokevirtual 124, 3) := by decide +kernel
theorem dX2_order_102 : decode cX2_order 102 = .ok (.ireturn, 1) := by decide +kernel
set_option maxRecDepth 20000 in
theorem ggX2_fold_X2_isRow : GoodIn wsX2_fold wsX2_isRow := goodIn_r _ [8] (by decide +kernel) (by decide +kernel)
set_option maxRecDepth 20000 in
theorem gX2_fold_X2_isRow : GoodIn wsX2_fold (va_wsS RX2 73 yX2_isRow wsX2_isRow) := goodIn_app (goodIn_of _ (by decide +kernel)) ggX2_fold_X2_isRow
set_option maxRecDepth 20000 in
theorem ggX2_fold_X2_failureAnswer : GoodIn wsX2_fold wsX2_failureAnswer := goodIn_r _ [11] (by decide +kernel) (by decide +kernel)
set_option maxRecDepth 20000 in
theorem gX2_fold_X2_failureAnswer : GoodIn wsX2_fold (va_wsS RX2 79 yX2_failureAnswer wsX2_failureAnswer) := goodIn_app (goodIn_of _ (by decide +kernel)) ggX2_fold_X2_failureAnswer
set_option maxRecDepth 20000 in
theorem ggX2_fold_X2_foldOne : GoodIn wsX2_fold wsX2_foldOne := goodIn_r _ [15, 16, 17, 18, 19, 20, 21, 22, 7, 23, 2, 24, 36, 37, 38, 39, 40, 41, 42, 43, 44, 45, 46, 47, 48, 49, 50, 51] (by decide +kernel) (by decide +kernel)
set_option maxRecDepth 20000 in
theorem gX2_fold_X2_foldOne : GoodIn wsX2_fold (wsV RX2 128 RX2 yX2_foldOne wsX2_foldOne) := goodIn_app (goodIn_of _ (by decide +kernel)) ggX2_fold_X2_foldOne
set_option maxRecDepth 20000 in
theorem ggX2_fold_X2_isRefused : GoodIn wsX2_fold wsX2_isRefused := goodIn_r _ [28, 2, 36, 37, 38, 39, 40, 41, 42, 43, 44, 45, 46, 47, 48, 49, 50, 51] (by decide +kernel) (by decide +kernel)
set_option maxRecDepth 20000 in
theorem gX2_fold_X2_isRefused : GoodIn wsX2_fold (wsV RX2 100 RX2 yX2_isRefused wsX2_isRefused) := goodIn_app (goodIn_of _ (by decide +kernel)) ggX2_fold_X2_isRefused
set_option maxRecDepth 20000 in
theorem ggX2_fold_X2_fail : GoodIn wsX2_fold wsX2_fail := goodIn_r _ [32, 2, 33, 24, 34, 35, 9, 10, 7, 11, 36, 37, 38, 39, 40, 41, 42, 43, 44, 45, 46, 47, 48, 49, 50, 51] (by decide +kernel) (by decide +kernel)
set_option maxRecDepth 20000 in
theorem gX2_fold_X2_fail : GoodIn wsX2_fold (wsV RX2 104 RX2 yX2_fail wsX2_fail) := goodIn_app (goodIn_of _ (by decide +kernel)) ggX2_fold_X2_fail
theorem dX2_fold_0 : decode cX2_fold 0 = .ok (.iload_n 1, 1) := by decide +kernel
theorem dX2_fold_1 : decode cX2_fold 1 = .ok (.ifCond .lt 15, 3) := by decide +kernel
theorem dX2_fold_4 : decode cX2_fold 4 = .ok (.iload_n 1, 1) := by decide +kernel
theorem dX2_fold_5 : decode cX2_fold 5 = .ok (.iconst 4, 1) := by decide +kernel
theorem dX2_fold_6 : decode cX2_fold 6 = .ok (.if_icmp .gt 10, 3) := by decide +kernel
theorem dX2_fold_9 : decode cX2_fold 9 = .ok (.iload_n 2, 1) := by decide +kernel
theorem dX2_fold_10 : decode cX2_fold 10 = .ok (.invokestatic 73, 3) := by decide +kernel
theorem dX2_fold_13 : decode cX2_fold 13 = .ok (.ifCond .ne 5, 3) := by decide +kernel
theorem dX2_fold_16 : decode cX2_fold 16 = .ok (.iconst (-1), 1) := by decide +kernel
theorem dX2_fold_17 : decode cX2_fold 17 = .ok (.ireturn, 1) := by decide +kernel
theorem dX2_fold_18 : decode cX2_fold 18 = .ok (.aload_n 0, 1) := by decide +kernel
theorem dX2_fold_19 : decode cX2_fold 19 = .ok (.getfield 17, 3) := by decide +kernel
theorem dX2_fold_22 : decode cX2_fold 22 = .ok (.iload_n 2, 1) := by decide +kernel
theorem dX2_fold_23 : decode cX2_fold 23 = .ok (.aaload, 1) := by decide +kernel
theorem dX2_fold_24 : decode cX2_fold 24 = .ok (.astore 4, 2) := by decide +kernel
theorem dX2_fold_26 : decode cX2_fold 26 = .ok (.aload 4, 2) := by decide +kernel
theorem dX2_fold_28 : decode cX2_fold 28 = .ok (.ifnonnull 8, 3) := by decide +kernel
theorem dX2_fold_31 : decode cX2_fold 31 = .ok (.iconst 3, 1) := by decide +kernel
theorem dX2_fold_32 : decode cX2_fold 32 = .ok (.invokestatic 79, 3) := by decide +kernel
theorem dX2_fold_35 : decode cX2_fold 35 = .ok (.ireturn, 1) := by decide +kernel
theorem dX2_fold_36 : decode cX2_fold 36 = .ok (.aload_n 0, 1) := by decide +kernel
theorem dX2_fold_37 : decode cX2_fold 37 = .ok (.iconst 0, 1) := by decide +kernel
theorem dX2_fold_38 : decode cX2_fold 38 = .ok (.putfield 40, 3) := by decide +kernel
theorem dX2_fold_41 : decode cX2_fold 41 = .ok (.aload 4, 2) := by decide +kernel
theorem dX2_fold_43 : decode cX2_fold 43 = .ok (.getfield 86, 3) := by decide +kernel
theorem dX2_fold_46 : decode cX2_fold 46 = .ok (.astore 5, 2) := by decide +kernel
theorem dX2_fold_48 : decode cX2_fold 48 = .ok (.iload_n 3, 1) := by decide +kernel
theorem dX2_fold_49 : decode cX2_fold 49 = .ok (.istore 6, 2) := by decide +kernel
theorem dX2_fold_51 : decode cX2_fold 51 = .ok (.iconst 0, 1) := by decide +kernel
theorem dX2_fold_52 : decode cX2_fold 52 = .ok (.istore 7, 2) := by decide +kernel
theorem dX2_fold_54 : decode cX2_fold 54 = .ok (.iload 7, 2) := by decide +kernel
theorem dX2_fold_56 : decode cX2_fold 56 = .ok (.aload 5, 2) := by decide +kernel
theorem dX2_fold_58 : decode cX2_fold 58 = .ok (.arraylength, 1) := by decide +kernel
theorem dX2_fold_59 : decode cX2_fold 59 = .ok (.if_icmp .ge 35, 3) := by decide +kernel
theorem dX2_fold_62 : decode cX2_fold 62 = .ok (.aload_n 0, 1) := by decide +kernel
theorem dX2_fold_63 : decode cX2_fold 63 = .ok (.iload_n 1, 1) := by decide +kernel
theorem dX2_fold_64 : decode cX2_fold 64 = .ok (.iload 6, 2) := by decide +kernel
theorem dX2_fold_66 : decode cX2_fold 66 = .ok (.aload 5, 2) := by decide +kernel
theorem dX2_fold_68 : decode cX2_fold 68 = .ok (.iload 7, 2) := by decide +kernel
theorem dX2_fold_70 : decode cX2_fold 70 = .ok (.iaload, 1) := by decide +kernel
theorem dX2_fold_71 : decode cX2_fold 71 = .ok (.invokevirtual 128, 3) := by decide +kernel
theorem dX2_fold_74 : decode cX2_fold 74 = .ok (.istore 6, 2) := by decide +kernel
theorem dX2_fold_76 : decode cX2_fold 76 = .ok (.aload_n 0, 1) := by decide +kernel
theorem dX2_fold_77 : decode cX2_fold 77 = .ok (.invokevirtual 100, 3) := by decide +kernel
theorem dX2_fold_80 : decode cX2_fold 80 = .ok (.ifCond .eq 8, 3) := by decide +kernel
