theorem kw0 : Cond.selects RX8 yX8_refuse yX8_refuse ∈ gt := gs1 (y := yX8_refuse) (n := 17) 0 rfl
theorem kw1 : Cond.selects RX8 yX8_grant yX8_grant ∈ gt := gs1 (y := yX8_grant) (n := 17) 1 rfl
theorem kw2 : Cond.selects RX1 yX1_told yX1_told ∈ gt := gs1 (y := yX1_told) (n := 5) 2 rfl
theorem kw3 : Cond.selects RX3 yX3_wordWorth yX3_wordWorth ∈ gt := gs1 (y := yX3_wordWorth) (n := 2) 3 rfl
theorem kw4 : Cond.selects RX8 yX8_tellRow yX8_tellRow ∈ gt := gs1 (y := yX8_tellRow) (n := 17) 4 rfl
theorem kw5 : Cond.selects RX6 yX6_step yX6_step ∈ gt := gs1 (y := yX6_step) (n := 10) 5 rfl
theorem kw6 : Cond.selects RX6 yX6_readClause yX6_readClause ∈ gt := gs1 (y := yX6_readClause) (n := 10) 6 rfl
theorem kw7 : Cond.selects RX6 yX6_wordOf yX6_wordOf ∈ gt := gs1 (y := yX6_wordOf) (n := 10) 7 rfl
theorem kw8 : Cond.selects RX6 yX6_isSame yX6_isSame ∈ gt := gs1 (y := yX6_isSame) (n := 10) 8 rfl
theorem kw9 : Cond.selects RX6 yX6_stop yX6_stop ∈ gt := gs1 (y := yX6_stop) (n := 10) 9 rfl
theorem kw10 : Cond.selects RX6 yX6_readSum yX6_readSum ∈ gt := gs1 (y := yX6_readSum) (n := 10) 10 rfl
theorem kw11 : Cond.selects RX6 yX6_readTerm yX6_readTerm ∈ gt := gs1 (y := yX6_readTerm) (n := 10) 11 rfl
theorem kw12 : Cond.selects RX6 yX6_readPart yX6_readPart ∈ gt := gs1 (y := yX6_readPart) (n := 10) 12 rfl
theorem kw13 : Cond.selects RX6 yX6_isSign yX6_isSign ∈ gt := gs1 (y := yX6_isSign) (n := 10) 13 rfl
theorem kw14 : Cond.selects RX6 yX6_readSinglePart yX6_readSinglePart ∈ gt := gs1 (y := yX6_readSinglePart) (n := 10) 14 rfl
theorem kw15 : Cond.selects RX6 yX6_isWord yX6_isWord ∈ gt := gs1 (y := yX6_isWord) (n := 10) 15 rfl
theorem kw16 : Cond.selects RX6 yX6_readTest yX6_readTest ∈ gt := gs2 (y := yX6_readTest) (n := 10) 0 rfl
theorem kw17 : Cond.selects RX6 yX6_readBoth yX6_readBoth ∈ gt := gs2 (y := yX6_readBoth) (n := 10) 1 rfl
theorem kw18 : Cond.selects RX6 yX6_readPlain yX6_readPlain ∈ gt := gs2 (y := yX6_readPlain) (n := 10) 2 rfl
theorem kw19 : Cond.selects RX8 yX8_obey yX8_obey ∈ gt := gs2 (y := yX8_obey) (n := 17) 3 rfl
theorem kw20 : Cond.selects RX1 yX1_heldRace yX1_heldRace ∈ gt := gs2 (y := yX1_heldRace) (n := 5) 4 rfl
theorem kw21 : Cond.selects RX1 yX1_wins yX1_wins ∈ gt := gs2 (y := yX1_wins) (n := 5) 5 rfl
theorem kw22 : Cond.selects RX1 yX1_changedEntry yX1_changedEntry ∈ gt := gs2 (y := yX1_changedEntry) (n := 5) 6 rfl
theorem kw23 : Cond.selects RX1 yX1_takenGap yX1_takenGap ∈ gt := gs2 (y := yX1_takenGap) (n := 5) 7 rfl
theorem kw24 : Cond.selects RX1 yX1_passedYear yX1_passedYear ∈ gt := gs2 (y := yX1_passedYear) (n := 5) 8 rfl
theorem kw25 : Cond.selects RX1 yX1_hasTradeOfLower yX1_hasTradeOfLower ∈ gt := gs2 (y := yX1_hasTradeOfLower) (n := 5) 9 rfl
theorem kw26 : Cond.selects RX8 yX8_answer yX8_answer ∈ gt := gs2 (y := yX8_answer) (n := 17) 10 rfl
theorem kw27 : Cond.selects RX7 yX7_setScores yX7_setScores ∈ gt := gs2 (y := yX7_setScores) (n := 10) 11 rfl
theorem kw28 : Cond.selects RX7 yX7_aheadOf yX7_aheadOf ∈ gt := gs2 (y := yX7_aheadOf) (n := 10) 12 rfl
theorem kw29 : Cond.selects RX7 yX7_fitsAllSeen yX7_fitsAllSeen ∈ gt := gs2 (y := yX7_fitsAllSeen) (n := 10) 13 rfl
theorem kw30 : Cond.selects RX7 yX7_alikeMost yX7_alikeMost ∈ gt := gs2 (y := yX7_alikeMost) (n := 10) 14 rfl
theorem kw31 : Cond.selects RX7 yX7_brokenBy yX7_brokenBy ∈ gt := gs2 (y := yX7_brokenBy) (n := 10) 15 rfl
theorem kw32 : Cond.selects RX7 yX7_firstNext yX7_firstNext ∈ gt := gs3 (y := yX7_firstNext) (n := 10) 0 rfl
theorem kw33 : Cond.selects RX7 yX7_isCircle yX7_isCircle ∈ gt := gs3 (y := yX7_isCircle) (n := 10) 1 rfl
theorem kw34 : Cond.selects RX7 yX7_bestFrom yX7_bestFrom ∈ gt := gs3 (y := yX7_bestFrom) (n := 10) 2 rfl
theorem kw35 : Cond.selects RX7 yX7_scoreWith yX7_scoreWith ∈ gt := gs3 (y := yX7_scoreWith) (n := 10) 3 rfl
theorem kw36 : Cond.selects RX7 yX7_firstCrowned yX7_firstCrowned ∈ gt := gs3 (y := yX7_firstCrowned) (n := 10) 4 rfl
theorem kw37 : Cond.selects RX7 yX7_awaitChildren yX7_awaitChildren ∈ gt := gs3 (y := yX7_awaitChildren) (n := 10) 5 rfl
theorem kw38 : Cond.selects RX7 yX7_elders yX7_elders ∈ gt := gs3 (y := yX7_elders) (n := 10) 6 rfl
theorem kw39 : Cond.selects RX9 yX9_tell yX9_tell ∈ gt := gs3 (y := yX9_tell) (n := 63) 7 rfl
theorem kw40 : Cond.selects RX9 yX9_putBack yX9_putBack ∈ gt := gs3 (y := yX9_putBack) (n := 63) 8 rfl
theorem kw41 : Cond.selects RX9 yX9_settled yX9_settled ∈ gt := gs3 (y := yX9_settled) (n := 63) 9 rfl
theorem kw42 : Cond.selects RX9 yX9_isPerson yX9_isPerson ∈ gt := gs3 (y := yX9_isPerson) (n := 63) 10 rfl
theorem kw43 : Cond.selects RX9 yX9_runsOf yX9_runsOf ∈ gt := gs3 (y := yX9_runsOf) (n := 63) 11 rfl
theorem kw44 : Cond.selects RX9 yX9_tells yX9_tells ∈ gt := gs3 (y := yX9_tells) (n := 63) 12 rfl
theorem kw45 : Cond.selects RX9 yX9_isSo yX9_isSo ∈ gt := gs3 (y := yX9_isSo) (n := 63) 13 rfl
theorem kw46 : Cond.selects RX9 yX9_reckonAll yX9_reckonAll ∈ gt := gs3 (y := yX9_reckonAll) (n := 63) 14 rfl
theorem kw47 : Cond.selects RX9 yX9_reckon yX9_reckon ∈ gt := gs3 (y := yX9_reckon) (n := 63) 15 rfl
theorem kw48 : Cond.selects RX9 yX9_isBarred yX9_isBarred ∈ gt := gs4 (y := yX9_isBarred) (n := 63) 0 rfl
theorem kw49 : Cond.selects RX9 yX9_change yX9_change ∈ gt := gs4 (y := yX9_change) (n := 63) 1 rfl
theorem kw50 : Cond.selects RX9 yX9_layPlaces yX9_layPlaces ∈ gt := gs4 (y := yX9_layPlaces) (n := 63) 2 rfl
theorem kw51 : Cond.selects RX9 yX9_isTold yX9_isTold ∈ gt := gs4 (y := yX9_isTold) (n := 63) 3 rfl
theorem kw52 : Cond.selects RX9 yX9_four yX9_four ∈ gt := gs4 (y := yX9_four) (n := 63) 4 rfl
theorem kw53 : Cond.selects RX9 yX9_beginText yX9_beginText ∈ gt := gs4 (y := yX9_beginText) (n := 63) 5 rfl
theorem kw54 : Cond.selects RX9 yX9_begin yX9_begin ∈ gt := gs4 (y := yX9_begin) (n := 63) 6 rfl
theorem kw55 : Cond.selects RX9 yX9_next yX9_next ∈ gt := gs4 (y := yX9_next) (n := 63) 7 rfl
theorem kw56 : Cond.selects RX9 yX9_readLaw yX9_readLaw ∈ gt := gs4 (y := yX9_readLaw) (n := 63) 8 rfl
theorem kw57 : Cond.selects RX9 yX9_isWord yX9_isWord ∈ gt := gs4 (y := yX9_isWord) (n := 63) 9 rfl
theorem kw58 : Cond.selects RX9 yX9_must yX9_must ∈ gt := gs4 (y := yX9_must) (n := 63) 10 rfl
theorem kw59 : Cond.selects RX9 yX9_readExpression yX9_readExpression ∈ gt := gs4 (y := yX9_readExpression) (n := 63) 11 rfl
theorem kw60 : Cond.selects RX9 yX9_readPlain yX9_readPlain ∈ gt := gs4 (y := yX9_readPlain) (n := 63) 12 rfl
theorem kw61 : Cond.selects RX9 yX9_push yX9_push ∈ gt := gs4 (y := yX9_push) (n := 63) 13 rfl
theorem kw62 : Cond.selects RX9 yX9_isSign yX9_isSign ∈ gt := gs4 (y := yX9_isSign) (n := 63) 14 rfl
theorem kw63 : Cond.selects RX9 yX9_openBracket yX9_openBracket ∈ gt := gs4 (y := yX9_openBracket) (n := 63) 15 rfl
theorem kw64 : Cond.selects RX9 yX9_readPart yX9_readPart ∈ gt := gs5 (y := yX9_readPart) (n := 63) 0 rfl
theorem kw65 : Cond.selects RX9 yX9_orderPartAt yX9_orderPartAt ∈ gt := gs5 (y := yX9_orderPartAt) (n := 63) 1 rfl
theorem kw66 : Cond.selects RX9 yX9_partAt yX9_partAt ∈ gt := gs5 (y := yX9_partAt) (n := 63) 2 rfl
theorem kw67 : Cond.selects RX9 yX9_leaf yX9_leaf ∈ gt := gs5 (y := yX9_leaf) (n := 63) 3 rfl
theorem kw68 : Cond.selects RX9 yX9_emit yX9_emit ∈ gt := gs5 (y := yX9_emit) (n := 63) 4 rfl
theorem kw69 : Cond.selects RX9 yX9_number yX9_number ∈ gt := gs5 (y := yX9_number) (n := 63) 5 rfl
theorem kw70 : Cond.selects RX9 yX9_behindSum yX9_behindSum ∈ gt := gs5 (y := yX9_behindSum) (n := 63) 6 rfl
theorem kw71 : Cond.selects RX9 yX9_settle yX9_settle ∈ gt := gs5 (y := yX9_settle) (n := 63) 7 rfl
theorem kw72 : Cond.selects RX9 yX9_inner yX9_inner ∈ gt := gs5 (y := yX9_inner) (n := 63) 8 rfl
theorem kw73 : Cond.selects RX9 yX9_isCompared yX9_isCompared ∈ gt := gs5 (y := yX9_isCompared) (n := 63) 9 rfl
theorem kw74 : Cond.selects RX9 yX9_behindTest yX9_behindTest ∈ gt := gs5 (y := yX9_behindTest) (n := 63) 10 rfl
theorem kw75 : Cond.selects RX9 yX9_endText yX9_endText ∈ gt := gs5 (y := yX9_endText) (n := 63) 11 rfl
theorem kw76 : Cond.selects RX9 yX9_isLaw yX9_isLaw ∈ gt := gs5 (y := yX9_isLaw) (n := 63) 12 rfl
theorem kw77 : Cond.selects RX9 yX9_raceNow yX9_raceNow ∈ gt := gs5 (y := yX9_raceNow) (n := 63) 13 rfl
theorem kw78 : Cond.selects RX9 yX9_remember yX9_remember ∈ gt := gs5 (y := yX9_remember) (n := 63) 14 rfl
theorem kw79 : Cond.selects RX9 yX9_keepAll yX9_keepAll ∈ gt := gs5 (y := yX9_keepAll) (n := 63) 15 rfl
theorem kw80 : Cond.selects RX9 yX9_raceIt yX9_raceIt ∈ gt := gs6 (y := yX9_raceIt) (n := 63) 0 rfl
theorem kw81 : Cond.selects RX9 yX9_winsOf yX9_winsOf ∈ gt := gs6 (y := yX9_winsOf) (n := 63) 1 rfl
theorem kw82 : Cond.selects RX9 yX9_turnsOf yX9_turnsOf ∈ gt := gs6 (y := yX9_turnsOf) (n := 63) 2 rfl
theorem kw83 : Cond.selects RX9 yX9_enterNow yX9_enterNow ∈ gt := gs6 (y := yX9_enterNow) (n := 63) 3 rfl
theorem kw84 : Cond.selects RX9 yX9_takeNow yX9_takeNow ∈ gt := gs6 (y := yX9_takeNow) (n := 63) 4 rfl
theorem kw85 : Cond.selects RX9 yX9_takeIt yX9_takeIt ∈ gt := gs6 (y := yX9_takeIt) (n := 63) 5 rfl
theorem kw86 : Cond.selects RX9 yX9_passNow yX9_passNow ∈ gt := gs6 (y := yX9_passNow) (n := 63) 6 rfl
theorem kw87 : Cond.selects RX9 yX9_passIt yX9_passIt ∈ gt := gs6 (y := yX9_passIt) (n := 63) 7 rfl
theorem kw88 : Cond.selects RX9 yX9_hasLike yX9_hasLike ∈ gt := gs6 (y := yX9_hasLike) (n := 63) 8 rfl
theorem kw89 : Cond.selects RX9 yX9_layRuns yX9_layRuns ∈ gt := gs6 (y := yX9_layRuns) (n := 63) 9 rfl
theorem kw90 : Cond.selects RX9 yX9_enteredBits yX9_enteredBits ∈ gt := gs6 (y := yX9_enteredBits) (n := 63) 10 rfl
theorem kw91 : Cond.selects RX9 yX9_placeOf yX9_placeOf ∈ gt := gs6 (y := yX9_placeOf) (n := 63) 11 rfl
theorem kw92 : Cond.selects RX9 yX9_thatCanBe yX9_thatCanBe ∈ gt := gs6 (y := yX9_thatCanBe) (n := 63) 12 rfl
theorem kw93 : Cond.selects RX9 yX9_layLeft yX9_layLeft ∈ gt := gs6 (y := yX9_layLeft) (n := 63) 13 rfl
theorem kw94 : Cond.selects RX9 yX9_leftBy yX9_leftBy ∈ gt := gs6 (y := yX9_leftBy) (n := 63) 14 rfl
theorem kw95 : Cond.selects RX9 yX9_findCrowned yX9_findCrowned ∈ gt := gs6 (y := yX9_findCrowned) (n := 63) 15 rfl
theorem kw96 : Cond.selects RX9 yX9_scoreNow yX9_scoreNow ∈ gt := gs7 (y := yX9_scoreNow) (n := 63) 0 rfl
theorem kw97 : Cond.selects RX9 yX9_isFree yX9_isFree ∈ gt := gs7 (y := yX9_isFree) (n := 63) 1 rfl
theorem kw98 : Cond.selects RX9 yX9_layLine yX9_layLine ∈ gt := gs7 (y := yX9_layLine) (n := 63) 2 rfl
theorem kw99 : Cond.selects RX9 yX9_elder yX9_elder ∈ gt := gs7 (y := yX9_elder) (n := 63) 3 rfl
theorem kw100 : Cond.selects RX9 yX9_readOrder yX9_readOrder ∈ gt := gs7 (y := yX9_readOrder) (n := 63) 4 rfl
theorem kw101 : Cond.selects RX9 yX9_readSum yX9_readSum ∈ gt := gs7 (y := yX9_readSum) (n := 63) 5 rfl
theorem kw102 : Cond.selects RX9 yX9_run yX9_run ∈ gt := gs7 (y := yX9_run) (n := 63) 6 rfl
theorem kw103 : Cond.selects RX9 yX9_enteredOnes yX9_enteredOnes ∈ gt := gs7 (y := yX9_enteredOnes) (n := 63) 7 rfl
theorem kw104 : Cond.selects RX9 yX9_sumOf yX9_sumOf ∈ gt := gs7 (y := yX9_sumOf) (n := 63) 8 rfl
theorem kw105 : Cond.selects RX9 yX9_orderSum yX9_orderSum ∈ gt := gs7 (y := yX9_orderSum) (n := 63) 9 rfl
theorem kw106 : Cond.selects RX9 yX9_act yX9_act ∈ gt := gs7 (y := yX9_act) (n := 63) 10 rfl
theorem kw107 : Cond.selects RX9 yX9_giveBack yX9_giveBack ∈ gt := gs7 (y := yX9_giveBack) (n := 63) 11 rfl
theorem kw108 : Cond.selects RX9 yX9_draw yX9_draw ∈ gt := gs7 (y := yX9_draw) (n := 63) 12 rfl
theorem kw110 : Cond.initialized RX8 ∈ gt := gw1 1 rfl rfl
theorem kw111 : Cond.initialized RX6 ∈ gt := gw1 2 rfl rfl
theorem kw112 : Cond.initialized RX0 ∈ gt := gw1 3 rfl rfl
theorem kw113 : Cond.initialized "java/lang/Math" ∈ gt := gw1 4 rfl rfl
theorem kw114 : Cond.initialized RX3 ∈ gt := gw1 5 rfl rfl
theorem kw115 : Cond.initialized RX2 ∈ gt := gw1 6 rfl rfl
theorem kw116 : Cond.initialized RX4 ∈ gt := gw1 7 rfl rfl
theorem kw117 : Cond.initialized RX1 ∈ gt := gw1 8 rfl rfl
theorem kw118 : Cond.initialized RX7 ∈ gt := gw1 9 rfl rfl
theorem kw119 : Cond.initialized RX5 ∈ gt := gw1 10 rfl rfl
theorem kw120 : Cond.initialized RX9 ∈ gt := gw1 11 rfl rfl
theorem kw121 : Cond.initialized "java/lang/String" ∈ gt := gw1 12 rfl rfl
theorem kw122 : Cond.initialized "java/lang/StringLatin1" ∈ gt := gw1 13 rfl rfl
theorem kw123 : Cond.initialized "jdk/internal/util/Preconditions" ∈ gt := gw1 14 rfl rfl
theorem kw125 : Cond.initialized "java/lang/System" ∈ gt := gw1 16 rfl rfl
theorem kw126 : Cond.initialized "java/lang/Integer" ∈ gt := gw1 17 rfl rfl
theorem kw127 : Cond.initialized "java/util/Arrays" ∈ gt := gw1 18 rfl rfl
theorem kw149 : Cond.static Lib.Math.max.name ∈ gt := gw1 40 rfl rfl
theorem kw150 : Cond.code Lib.Math.max.name Lib.Math.max.code 2 (some .int) ∈ gt := gw1 41 rfl rfl
theorem kw152 : Cond.fieldLink RX1 52 "NoSecond$Code" "kind" "[I" ∈ gt := gw1 43 rfl rfl
theorem kw153 : Cond.fieldLink RX6 76 "NoSecond$Code" "kind" "[I" ∈ gt := gw1 44 rfl rfl
theorem kw154 : Cond.fieldLink RX8 337 "NoSecond$Code" "kind" "[I" ∈ gt := gw1 45 rfl rfl
theorem kw156 : Cond.fieldLink RX6 79 "NoSecond$Code" "times" "[I" ∈ gt := gw1 47 rfl rfl
theorem kw157 : Cond.fieldLink RX8 206 "NoSecond$Code" "times" "[I" ∈ gt := gw1 48 rfl rfl
theorem kw159 : Cond.fieldLink RX1 65 "NoSecond$Code" "sumFrom" "[I" ∈ gt := gw1 50 rfl rfl
theorem kw160 : Cond.fieldLink RX6 82 "NoSecond$Code" "sumFrom" "[I" ∈ gt := gw1 51 rfl rfl
theorem kw161 : Cond.fieldLink RX8 332 "NoSecond$Code" "sumFrom" "[I" ∈ gt := gw1 52 rfl rfl
theorem kw163 : Cond.fieldLink RX1 55 "NoSecond$Code" "testFrom" "[I" ∈ gt := gw1 54 rfl rfl
theorem kw164 : Cond.fieldLink RX6 91 "NoSecond$Code" "testFrom" "[I" ∈ gt := gw1 55 rfl rfl
theorem kw165 : Cond.fieldLink RX8 322 "NoSecond$Code" "testFrom" "[I" ∈ gt := gw1 56 rfl rfl
theorem kw167 : Cond.fieldLink RX1 58 "NoSecond$Code" "testTo" "[I" ∈ gt := gw1 58 rfl rfl
theorem kw168 : Cond.fieldLink RX6 104 "NoSecond$Code" "testTo" "[I" ∈ gt := gw1 59 rfl rfl
theorem kw169 : Cond.fieldLink RX8 325 "NoSecond$Code" "testTo" "[I" ∈ gt := gw1 60 rfl rfl
theorem kw170 : Cond.fieldLink RX0 40 "NoSecond$Code" "step" "[I" ∈ gt := gw1 61 rfl rfl
theorem kw171 : Cond.fieldLink RX3 75 "NoSecond$Code" "step" "[I" ∈ gt := gw1 62 rfl rfl
theorem kw172 : Cond.fieldLink RX0 43 "NoSecond$Code" "with" "[I" ∈ gt := gw1 63 rfl rfl
theorem kw173 : Cond.fieldLink RX3 78 "NoSecond$Code" "with" "[I" ∈ gt := gw1 64 rfl rfl
theorem kw174 : Cond.fieldLink RX0 9 "NoSecond$Code" "clauses" "I" ∈ gt := gw1 65 rfl rfl
theorem kw175 : Cond.fieldLink RX1 47 "NoSecond$Code" "clauses" "I" ∈ gt := gw1 66 rfl rfl
theorem kw176 : Cond.fieldLink RX6 107 "NoSecond$Code" "clauses" "I" ∈ gt := gw1 67 rfl rfl
theorem kw177 : Cond.fieldLink RX8 203 "NoSecond$Code" "clauses" "I" ∈ gt := gw1 68 rfl rfl
theorem kw178 : Cond.fieldLink RX0 15 "NoSecond$Code" "steps" "I" ∈ gt := gw1 69 rfl rfl
theorem kw179 : Cond.fieldLink RX3 67 "NoSecond$Code" "steps" "I" ∈ gt := gw1 70 rfl rfl
theorem kw180 : Cond.fieldLink RX6 85 "NoSecond$Code" "steps" "I" ∈ gt := gw1 71 rfl rfl
theorem kw201 : Cond.fieldLink RX6 11 "NoSecond$Reader" "tape" "[I" ∈ gt := gw1 92 rfl rfl
theorem kw202 : Cond.fieldLink RX6 20 "NoSecond$Reader" "code" "LNoSecond$Code;" ∈ gt := gw1 93 rfl rfl
theorem kw203 : Cond.fieldLink RX8 183 "NoSecond$Reader" "code" "LNoSecond$Code;" ∈ gt := gw1 94 rfl rfl
theorem kw204 : Cond.fieldLink RX6 24 "NoSecond$Reader" "size" "I" ∈ gt := gw1 95 rfl rfl
theorem kw205 : Cond.fieldLink RX8 170 "NoSecond$Reader" "size" "I" ∈ gt := gw1 96 rfl rfl
theorem kw206 : Cond.fieldLink RX6 28 "NoSecond$Reader" "fault" "I" ∈ gt := gw1 97 rfl rfl
theorem kw207 : Cond.fieldLink RX8 213 "NoSecond$Reader" "fault" "I" ∈ gt := gw1 98 rfl rfl
theorem kw208 : Cond.fieldLink RX6 31 "NoSecond$Reader" "isLaw" "Z" ∈ gt := gw1 99 rfl rfl
theorem kw209 : Cond.fieldLink RX6 35 "NoSecond$Reader" "parts" "I" ∈ gt := gw1 100 rfl rfl
theorem kw210 : Cond.fieldLink RX6 38 "NoSecond$Reader" "token" "I" ∈ gt := gw1 101 rfl rfl
theorem kw211 : Cond.fieldLink RX6 41 "NoSecond$Reader" "tokenAt" "I" ∈ gt := gw1 102 rfl rfl
theorem kw212 : Cond.fieldLink RX6 44 "NoSecond$Reader" "next" "I" ∈ gt := gw1 103 rfl rfl
theorem kw213 : Cond.fieldLink RX6 47 "NoSecond$Reader" "number" "I" ∈ gt := gw1 104 rfl rfl
theorem kw241 : Cond.fieldLink RX3 11 "NoSecond$Machine" "words" "[I" ∈ gt := gw1 132 rfl rfl
theorem kw242 : Cond.fieldLink RX3 17 "NoSecond$Machine" "stack" "[J" ∈ gt := gw1 133 rfl rfl
theorem kw261 : Cond.fieldLink RX4 9 "NoSecond$Moving" "trade" "[I" ∈ gt := gw1 152 rfl rfl
theorem kw262 : Cond.fieldLink RX3 30 "NoSecond$Moving" "trade" "[I" ∈ gt := gw1 153 rfl rfl
theorem kw263 : Cond.fieldLink RX1 83 "NoSecond$Moving" "trade" "[I" ∈ gt := gw1 154 rfl rfl
theorem kw264 : Cond.fieldLink RX2 77 "NoSecond$Moving" "trade" "[I" ∈ gt := gw1 155 rfl rfl
theorem kw265 : Cond.fieldLink RX4 15 "NoSecond$Moving" "prizes" "[I" ∈ gt := gw1 156 rfl rfl
theorem kw266 : Cond.fieldLink RX3 35 "NoSecond$Moving" "prizes" "[I" ∈ gt := gw1 157 rfl rfl
theorem kw267 : Cond.fieldLink RX2 83 "NoSecond$Moving" "prizes" "[I" ∈ gt := gw1 158 rfl rfl
theorem kw268 : Cond.fieldLink RX4 18 "NoSecond$Moving" "entered" "I" ∈ gt := gw1 159 rfl rfl
theorem kw269 : Cond.fieldLink RX7 78 "NoSecond$Moving" "entered" "I" ∈ gt := gw1 160 rfl rfl
theorem kw270 : Cond.fieldLink RX3 48 "NoSecond$Moving" "entered" "I" ∈ gt := gw1 161 rfl rfl
theorem kw271 : Cond.fieldLink RX1 162 "NoSecond$Moving" "entered" "I" ∈ gt := gw1 162 rfl rfl
theorem kw272 : Cond.fieldLink RX8 300 "NoSecond$Moving" "entered" "I" ∈ gt := gw1 163 rfl rfl
theorem kw273 : Cond.fieldLink RX4 22 "NoSecond$Moving" "gap" "I" ∈ gt := gw1 164 rfl rfl
theorem kw274 : Cond.fieldLink RX3 38 "NoSecond$Moving" "gap" "I" ∈ gt := gw1 165 rfl rfl
theorem kw275 : Cond.fieldLink RX1 122 "NoSecond$Moving" "gap" "I" ∈ gt := gw1 166 rfl rfl
theorem kw276 : Cond.fieldLink RX8 303 "NoSecond$Moving" "gap" "I" ∈ gt := gw1 167 rfl rfl
theorem kw277 : Cond.fieldLink RX4 25 "NoSecond$Moving" "year" "I" ∈ gt := gw1 168 rfl rfl
theorem kw278 : Cond.fieldLink RX3 42 "NoSecond$Moving" "year" "I" ∈ gt := gw1 169 rfl rfl
theorem kw279 : Cond.fieldLink RX2 80 "NoSecond$Moving" "year" "I" ∈ gt := gw1 170 rfl rfl
theorem kw280 : Cond.fieldLink RX1 119 "NoSecond$Moving" "year" "I" ∈ gt := gw1 171 rfl rfl
theorem kw281 : Cond.fieldLink RX8 294 "NoSecond$Moving" "year" "I" ∈ gt := gw1 172 rfl rfl
theorem kw295 : Cond.fieldLink RX2 12 "NoSecond$Isles" "now" "LNoSecond$Moving;" ∈ gt := gw1 186 rfl rfl
theorem kw296 : Cond.fieldLink RX3 26 "NoSecond$Isles" "now" "LNoSecond$Moving;" ∈ gt := gw1 187 rfl rfl
theorem kw297 : Cond.fieldLink RX8 140 "NoSecond$Isles" "now" "LNoSecond$Moving;" ∈ gt := gw1 188 rfl rfl
theorem kw298 : Cond.fieldLink RX7 74 "NoSecond$Isles" "now" "LNoSecond$Moving;" ∈ gt := gw1 189 rfl rfl
theorem kw299 : Cond.fieldLink RX1 79 "NoSecond$Isles" "now" "LNoSecond$Moving;" ∈ gt := gw1 190 rfl rfl
theorem kw300 : Cond.fieldLink RX2 18 "NoSecond$Isles" "parent" "[I" ∈ gt := gw1 191 rfl rfl
theorem kw301 : Cond.fieldLink RX8 119 "NoSecond$Isles" "parent" "[I" ∈ gt := gw1 192 rfl rfl
theorem kw302 : Cond.fieldLink RX7 158 "NoSecond$Isles" "parent" "[I" ∈ gt := gw1 193 rfl rfl
theorem kw303 : Cond.fieldLink RX2 22 "NoSecond$Isles" "strength" "[I" ∈ gt := gw1 194 rfl rfl
theorem kw304 : Cond.fieldLink RX3 21 "NoSecond$Isles" "strength" "[I" ∈ gt := gw1 195 rfl rfl
theorem kw305 : Cond.fieldLink RX8 125 "NoSecond$Isles" "strength" "[I" ∈ gt := gw1 196 rfl rfl
theorem kw306 : Cond.fieldLink RX1 72 "NoSecond$Isles" "strength" "[I" ∈ gt := gw1 197 rfl rfl
theorem kw307 : Cond.fieldLink RX2 25 "NoSecond$Isles" "beaten" "[I" ∈ gt := gw1 198 rfl rfl
theorem kw308 : Cond.fieldLink RX8 146 "NoSecond$Isles" "beaten" "[I" ∈ gt := gw1 199 rfl rfl
theorem kw309 : Cond.fieldLink RX7 135 "NoSecond$Isles" "beaten" "[I" ∈ gt := gw1 200 rfl rfl
theorem kw310 : Cond.fieldLink RX2 28 "NoSecond$Isles" "seenRace" "[I" ∈ gt := gw1 201 rfl rfl
theorem kw311 : Cond.fieldLink RX7 99 "NoSecond$Isles" "seenRace" "[I" ∈ gt := gw1 202 rfl rfl
theorem kw312 : Cond.fieldLink RX2 31 "NoSecond$Isles" "seenTrade" "[I" ∈ gt := gw1 203 rfl rfl
theorem kw313 : Cond.fieldLink RX7 105 "NoSecond$Isles" "seenTrade" "[I" ∈ gt := gw1 204 rfl rfl
theorem kw314 : Cond.fieldLink RX2 36 "NoSecond$Isles" "laws" "[LNoSecond$Code;" ∈ gt := gw1 205 rfl rfl
theorem kw315 : Cond.fieldLink RX2 40 "NoSecond$Isles" "people" "I" ∈ gt := gw1 206 rfl rfl
theorem kw316 : Cond.fieldLink RX7 55 "NoSecond$Isles" "people" "I" ∈ gt := gw1 207 rfl rfl
theorem kw317 : Cond.fieldLink RX8 106 "NoSecond$Isles" "people" "I" ∈ gt := gw1 208 rfl rfl
theorem kw318 : Cond.fieldLink RX1 97 "NoSecond$Isles" "people" "I" ∈ gt := gw1 209 rfl rfl
theorem kw319 : Cond.fieldLink RX2 44 "NoSecond$Isles" "seenCount" "I" ∈ gt := gw1 210 rfl rfl
theorem kw320 : Cond.fieldLink RX7 96 "NoSecond$Isles" "seenCount" "I" ∈ gt := gw1 211 rfl rfl
theorem kw321 : Cond.fieldLink RX8 243 "NoSecond$Isles" "seenCount" "I" ∈ gt := gw1 212 rfl rfl
theorem kw322 : Cond.fieldLink RX2 47 "NoSecond$Isles" "lawCount" "I" ∈ gt := gw1 213 rfl rfl
theorem kw323 : Cond.fieldLink RX8 176 "NoSecond$Isles" "lawCount" "I" ∈ gt := gw1 214 rfl rfl
theorem kw324 : Cond.fieldLink RX2 50 "NoSecond$Isles" "inForce" "I" ∈ gt := gw1 215 rfl rfl
theorem kw325 : Cond.fieldLink RX8 219 "NoSecond$Isles" "inForce" "I" ∈ gt := gw1 216 rfl rfl
theorem kw326 : Cond.fieldLink RX2 53 "NoSecond$Isles" "trips" "I" ∈ gt := gw1 217 rfl rfl
theorem kw327 : Cond.fieldLink RX7 168 "NoSecond$Isles" "trips" "I" ∈ gt := gw1 218 rfl rfl
theorem kw328 : Cond.fieldLink RX2 56 "NoSecond$Isles" "mood" "I" ∈ gt := gw1 219 rfl rfl
theorem kw329 : Cond.fieldLink RX3 45 "NoSecond$Isles" "mood" "I" ∈ gt := gw1 220 rfl rfl
theorem kw363 : Cond.fieldLink RX1 22 "NoSecond$Court" "isles" "LNoSecond$Isles;" ∈ gt := gw2 14 rfl rfl
theorem kw365 : Cond.fieldLink RX1 26 "NoSecond$Court" "machine" "LNoSecond$Machine;" ∈ gt := gw2 16 rfl rfl
theorem kw366 : Cond.fieldLink RX1 9 "NoSecond$Court" "line" "[I" ∈ gt := gw2 17 rfl rfl
theorem kw367 : Cond.fieldLink RX1 15 "NoSecond$Court" "pace" "[I" ∈ gt := gw2 18 rfl rfl
theorem kw368 : Cond.fieldLink RX1 18 "NoSecond$Court" "runners" "I" ∈ gt := gw2 19 rfl rfl
theorem kw386 : Cond.fieldLink RX7 38 "NoSecond$Study" "court" "LNoSecond$Court;" ∈ gt := gw2 37 rfl rfl
theorem kw387 : Cond.fieldLink RX7 48 "NoSecond$Study" "isles" "LNoSecond$Isles;" ∈ gt := gw2 38 rfl rfl
theorem kw388 : Cond.fieldLink RX7 9 "NoSecond$Study" "list" "[I" ∈ gt := gw2 39 rfl rfl
theorem kw389 : Cond.fieldLink RX8 262 "NoSecond$Study" "list" "[I" ∈ gt := gw2 40 rfl rfl
theorem kw390 : Cond.fieldLink RX7 15 "NoSecond$Study" "waiting" "[I" ∈ gt := gw2 41 rfl rfl
theorem kw391 : Cond.fieldLink RX7 18 "NoSecond$Study" "best" "[I" ∈ gt := gw2 42 rfl rfl
theorem kw392 : Cond.fieldLink RX7 21 "NoSecond$Study" "score" "[I" ∈ gt := gw2 43 rfl rfl
theorem kw393 : Cond.fieldLink RX7 24 "NoSecond$Study" "alike" "[I" ∈ gt := gw2 44 rfl rfl
theorem kw394 : Cond.fieldLink RX7 27 "NoSecond$Study" "ways" "[J" ∈ gt := gw2 45 rfl rfl
theorem kw395 : Cond.fieldLink RX7 31 "NoSecond$Study" "part" "[J" ∈ gt := gw2 46 rfl rfl
theorem kw396 : Cond.fieldLink RX7 34 "NoSecond$Study" "leftMost" "I" ∈ gt := gw2 47 rfl rfl
theorem kw397 : Cond.fieldLink RX8 256 "NoSecond$Study" "leftMost" "I" ∈ gt := gw2 48 rfl rfl
theorem kw426 : Cond.fieldLink RX5 9 "NoSecond$Past" "kind" "[I" ∈ gt := gw2 77 rfl rfl
theorem kw427 : Cond.fieldLink RX5 17 "NoSecond$Past" "ahead" "[I" ∈ gt := gw2 78 rfl rfl
theorem kw428 : Cond.fieldLink RX5 20 "NoSecond$Past" "first" "I" ∈ gt := gw2 79 rfl rfl
theorem kw429 : Cond.fieldLink RX5 24 "NoSecond$Past" "size" "I" ∈ gt := gw2 80 rfl rfl
theorem kw430 : Cond.fieldLink RX8 229 "NoSecond$Past" "size" "I" ∈ gt := gw2 81 rfl rfl
theorem kw442 : Cond.fieldLink RX8 10 "NoSecond" "reader" "LNoSecond$Reader;" ∈ gt := gw2 93 rfl rfl
theorem kw443 : Cond.fieldLink RX8 19 "NoSecond" "machine" "LNoSecond$Machine;" ∈ gt := gw2 94 rfl rfl
theorem kw444 : Cond.fieldLink RX8 26 "NoSecond" "isles" "LNoSecond$Isles;" ∈ gt := gw2 95 rfl rfl
theorem kw445 : Cond.fieldLink RX8 35 "NoSecond" "court" "LNoSecond$Court;" ∈ gt := gw2 96 rfl rfl
theorem kw446 : Cond.fieldLink RX8 44 "NoSecond" "study" "LNoSecond$Study;" ∈ gt := gw2 97 rfl rfl
theorem kw447 : Cond.fieldLink RX8 48 "NoSecond" "paper" "LNoSecond$Isles;" ∈ gt := gw2 98 rfl rfl
theorem kw448 : Cond.fieldLink RX8 51 "NoSecond" "paperCourt" "LNoSecond$Court;" ∈ gt := gw2 99 rfl rfl
theorem kw450 : Cond.fieldLink RX8 61 "NoSecond" "past" "LNoSecond$Past;" ∈ gt := gw2 101 rfl rfl
theorem kw451 : Cond.fieldLink RX8 65 "NoSecond" "pastAhead" "LNoSecond$Past;" ∈ gt := gw2 102 rfl rfl
theorem kw452 : Cond.fieldLink RX8 71 "NoSecond" "movingAhead" "LNoSecond$Moving;" ∈ gt := gw2 103 rfl rfl
theorem kw453 : Cond.fieldLink RX8 75 "NoSecond" "refusals" "[I" ∈ gt := gw2 104 rfl rfl
theorem kw454 : Cond.fieldLink RX8 79 "NoSecond" "refusedBy" "I" ∈ gt := gw2 105 rfl rfl
theorem kw455 : Cond.fieldLink RX8 83 "NoSecond" "blotCount" "I" ∈ gt := gw2 106 rfl rfl
theorem kw456 : Cond.fieldLink RX8 86 "NoSecond" "stoppedAt" "I" ∈ gt := gw2 107 rfl rfl
theorem kw457 : Cond.fieldLink RX8 89 "NoSecond" "done" "I" ∈ gt := gw2 108 rfl rfl
theorem kw458 : Cond.fieldLink RX8 92 "NoSecond" "latest" "I" ∈ gt := gw2 109 rfl rfl
theorem kw498 : Cond.methodLink RX8 95 yX8_isTrade ∈ gt := gw2 149 rfl rfl
theorem kw499 : Cond.static yX8_isTrade ∈ gt := gw2 150 rfl rfl
theorem kw500 : Cond.code yX8_isTrade cX8_isTrade 1 (some .boolean) ∈ gt := gw2 151 rfl rfl
theorem kw501 : Cond.methodLink RX8 99 yX2_isPerson ∈ gt := gw2 152 rfl rfl
theorem kw502 : Cond.instanceMethod yX2_isPerson ∈ gt := gw2 153 rfl rfl
theorem kw503 : Cond.selects RX2 yX2_isPerson yX2_isPerson ∈ gt := gw2 154 rfl rfl
theorem kw504 : Cond.code yX2_isPerson cX2_isPerson 2 (some .boolean) ∈ gt := gw2 155 rfl rfl
theorem kw505 : Cond.methodLink RX8 102 yX8_refuse ∈ gt := gw2 156 rfl rfl
theorem kw507 : Cond.instanceMethod yX8_refuse ∈ gt := gw2 158 rfl rfl
theorem kw508 : Cond.code yX8_refuse cX8_refuse 2 (some .int) ∈ gt := gw2 159 rfl rfl
theorem kw509 : Cond.methodLink RX8 109 yX5_clear ∈ gt := gw2 160 rfl rfl
theorem kw510 : Cond.instanceMethod yX5_clear ∈ gt := gw2 161 rfl rfl
theorem kw511 : Cond.selects RX5 yX5_clear yX5_clear ∈ gt := gw2 162 rfl rfl
theorem kw512 : Cond.code yX5_clear cX5_clear 1 none ∈ gt := gw2 163 rfl rfl
theorem kw513 : Cond.methodLink RX8 112 yX2_addPerson ∈ gt := gw2 164 rfl rfl
theorem kw514 : Cond.instanceMethod yX2_addPerson ∈ gt := gw2 165 rfl rfl
theorem kw515 : Cond.selects RX2 yX2_addPerson yX2_addPerson ∈ gt := gw2 166 rfl rfl
theorem kw516 : Cond.code yX2_addPerson cX2_addPerson 3 (some .int) ∈ gt := gw2 167 rfl rfl
theorem kw517 : Cond.methodLink RX8 116 yX8_grant ∈ gt := gw2 168 rfl rfl
theorem kw519 : Cond.instanceMethod yX8_grant ∈ gt := gw2 170 rfl rfl
theorem kw520 : Cond.code yX8_grant cX8_grant 2 (some .int) ∈ gt := gw2 171 rfl rfl
theorem kw525 : Cond.methodLink RX8 122 yX8_isRace ∈ gt := gw2 176 rfl rfl
theorem kw526 : Cond.static yX8_isRace ∈ gt := gw2 177 rfl rfl
theorem kw527 : Cond.code yX8_isRace cX8_isRace 1 (some .boolean) ∈ gt := gw2 178 rfl rfl
theorem kw528 : Cond.methodLink RX8 128 yX2_lawInForce ∈ gt := gw2 179 rfl rfl
theorem kw529 : Cond.instanceMethod yX2_lawInForce ∈ gt := gw2 180 rfl rfl
theorem kw530 : Cond.selects RX2 yX2_lawInForce yX2_lawInForce ∈ gt := gw2 181 rfl rfl
theorem kw531 : Cond.code yX2_lawInForce cX2_lawInForce 1 (some (.object "NoSecond$Code")) ∈ gt := gw2 182 rfl rfl
theorem kw532 : Cond.methodLink RX2 73 yX2_lawAt ∈ gt := gw2 183 rfl rfl
theorem kw533 : Cond.instanceMethod yX2_lawAt ∈ gt := gw2 184 rfl rfl
theorem kw534 : Cond.selects RX2 yX2_lawAt yX2_lawAt ∈ gt := gw2 185 rfl rfl
theorem kw535 : Cond.code yX2_lawAt cX2_lawAt 2 (some (.object "NoSecond$Code")) ∈ gt := gw2 186 rfl rfl
theorem kw536 : Cond.methodLink RX2 69 yX2_isLaw ∈ gt := gw2 187 rfl rfl
theorem kw537 : Cond.instanceMethod yX2_isLaw ∈ gt := gw2 188 rfl rfl
theorem kw538 : Cond.selects RX2 yX2_isLaw yX2_isLaw ∈ gt := gw2 189 rfl rfl
theorem kw539 : Cond.code yX2_isLaw cX2_isLaw 2 (some .boolean) ∈ gt := gw2 190 rfl rfl
theorem kw540 : Cond.methodLink RX8 132 yX1_runsBy ∈ gt := gw2 191 rfl rfl
theorem kw541 : Cond.instanceMethod yX1_runsBy ∈ gt := gw2 192 rfl rfl
theorem kw542 : Cond.selects RX1 yX1_runsBy yX1_runsBy ∈ gt := gw2 193 rfl rfl
theorem kw543 : Cond.code yX1_runsBy cX1_runsBy 6 (some .int) ∈ gt := gw2 194 rfl rfl
theorem kw544 : Cond.methodLink RX1 68 yX1_told ∈ gt := gw2 195 rfl rfl
theorem kw546 : Cond.instanceMethod yX1_told ∈ gt := gw2 197 rfl rfl
theorem kw547 : Cond.code yX1_told cX1_told 9 (some .long) ∈ gt := gw2 198 rfl rfl
theorem kw548 : Cond.methodLink RX1 30 yX2_isPerson ∈ gt := gw2 199 rfl rfl
theorem kw550 : Cond.constantLong RX1 41 (-9000000000000000000) ∈ gt := gw2 201 rfl rfl
theorem kw551 : Cond.methodLink RX1 43 yX3_setLawWords ∈ gt := gw2 202 rfl rfl
theorem kw552 : Cond.instanceMethod yX3_setLawWords ∈ gt := gw2 203 rfl rfl
theorem kw553 : Cond.selects RX3 yX3_setLawWords yX3_setLawWords ∈ gt := gw2 204 rfl rfl
theorem kw554 : Cond.code yX3_setLawWords cX3_setLawWords 5 none ∈ gt := gw2 205 rfl rfl
theorem kw555 : Cond.methodLink RX1 61 yX3_worth ∈ gt := gw2 206 rfl rfl
theorem kw556 : Cond.instanceMethod yX3_worth ∈ gt := gw2 207 rfl rfl
theorem kw557 : Cond.selects RX3 yX3_worth yX3_worth ∈ gt := gw2 208 rfl rfl
theorem kw558 : Cond.code yX3_worth cX3_worth 11 (some .long) ∈ gt := gw2 209 rfl rfl
theorem kw559 : Cond.methodLink RX3 61 Lib.Math.max.name ∈ gt := gw2 210 rfl rfl
theorem kw560 : Cond.methodLink RX3 72 Lib.Math.min.name ∈ gt := gw2 211 rfl rfl
theorem kw561 : Cond.static Lib.Math.min.name ∈ gt := gw2 212 rfl rfl
theorem kw562 : Cond.code Lib.Math.min.name Lib.Math.min.code 2 (some .int) ∈ gt := gw2 213 rfl rfl
theorem kw563 : Cond.constantLong RX3 81 (-9000000000000000000) ∈ gt := gw2 214 rfl rfl
theorem kw564 : Cond.methodLink RX3 83 yX3_wordWorth ∈ gt := gw2 215 rfl rfl
theorem kw566 : Cond.instanceMethod yX3_wordWorth ∈ gt := gw2 217 rfl rfl
theorem kw567 : Cond.code yX3_wordWorth cX3_wordWorth 2 (some .long) ∈ gt := gw2 218 rfl rfl
theorem kw568 : Cond.methodLink RX3 87 yX3_joined ∈ gt := gw2 219 rfl rfl
theorem kw569 : Cond.static yX3_joined ∈ gt := gw2 220 rfl rfl
theorem kw570 : Cond.code yX3_joined cX3_joined 7 (some .long) ∈ gt := gw2 221 rfl rfl
theorem kw571 : Cond.constantLong RX3 91 (1000000000) ∈ gt := gw2 222 rfl rfl
theorem kw572 : Cond.constantLong RX3 93 (-1000000000) ∈ gt := gw2 223 rfl rfl
theorem kw573 : Cond.methodLink RX1 75 yX1_nearest ∈ gt := gw2 224 rfl rfl
theorem kw574 : Cond.static yX1_nearest ∈ gt := gw2 225 rfl rfl
theorem kw575 : Cond.code yX1_nearest cX1_nearest 3 (some .int) ∈ gt := gw2 226 rfl rfl
theorem kw576 : Cond.methodLink RX1 88 Lib.MathLoose.min_long.x ∈ gt := gw2 227 rfl rfl
theorem kw577 : Cond.static Lib.MathLoose.min_long.x ∈ gt := gw2 228 rfl rfl
theorem kw578 : Cond.code Lib.MathLoose.min_long.x Lib.MathLoose.min_long.code 4 (some .long) ∈ gt := gw2 229 rfl rfl
theorem kw579 : Cond.methodLink RX1 94 Lib.MathLoose.max_long.x ∈ gt := gw2 230 rfl rfl
theorem kw580 : Cond.static Lib.MathLoose.max_long.x ∈ gt := gw2 231 rfl rfl
theorem kw581 : Cond.code Lib.MathLoose.max_long.x Lib.MathLoose.max_long.code 4 (some .long) ∈ gt := gw2 232 rfl rfl
theorem kw582 : Cond.methodLink RX8 136 yX1_isBarred ∈ gt := gw2 233 rfl rfl
theorem kw583 : Cond.instanceMethod yX1_isBarred ∈ gt := gw2 234 rfl rfl
theorem kw584 : Cond.selects RX1 yX1_isBarred yX1_isBarred ∈ gt := gw2 235 rfl rfl
theorem kw585 : Cond.code yX1_isBarred cX1_isBarred 4 (some .boolean) ∈ gt := gw2 236 rfl rfl
theorem kw586 : Cond.methodLink RX8 143 yX4_told ∈ gt := gw2 237 rfl rfl
theorem kw587 : Cond.instanceMethod yX4_told ∈ gt := gw2 238 rfl rfl
theorem kw588 : Cond.selects RX4 yX4_told yX4_told ∈ gt := gw2 239 rfl rfl
theorem kw589 : Cond.code yX4_told cX4_told 3 (some .int) ∈ gt := gw3 0 rfl rfl
theorem kw602 : Cond.methodLink RX8 149 yX1_lineUp ∈ gt := gw3 13 rfl rfl
theorem kw603 : Cond.instanceMethod yX1_lineUp ∈ gt := gw3 14 rfl rfl
theorem kw604 : Cond.selects RX1 yX1_lineUp yX1_lineUp ∈ gt := gw3 15 rfl rfl
theorem kw605 : Cond.code yX1_lineUp cX1_lineUp 5 (some .int) ∈ gt := gw3 16 rfl rfl
theorem kw606 : Cond.methodLink RX1 100 yX4_isIn ∈ gt := gw3 17 rfl rfl
theorem kw607 : Cond.instanceMethod yX4_isIn ∈ gt := gw3 18 rfl rfl
theorem kw608 : Cond.selects RX4 yX4_isIn yX4_isIn ∈ gt := gw3 19 rfl rfl
theorem kw609 : Cond.code yX4_isIn cX4_isIn 2 (some .boolean) ∈ gt := gw3 20 rfl rfl
theorem kw610 : Cond.methodLink RX1 103 yX1_isBarred ∈ gt := gw3 21 rfl rfl
theorem kw611 : Cond.methodLink RX1 107 yX1_runsBy ∈ gt := gw3 22 rfl rfl
theorem kw612 : Cond.methodLink RX8 153 yX1_at ∈ gt := gw3 23 rfl rfl
theorem kw613 : Cond.instanceMethod yX1_at ∈ gt := gw3 24 rfl rfl
theorem kw614 : Cond.selects RX1 yX1_at yX1_at ∈ gt := gw3 25 rfl rfl
theorem kw615 : Cond.code yX1_at cX1_at 2 (some .int) ∈ gt := gw3 26 rfl rfl
theorem kw620 : Cond.methodLink RX8 156 yX2_term ∈ gt := gw3 31 rfl rfl
theorem kw621 : Cond.instanceMethod yX2_term ∈ gt := gw3 32 rfl rfl
theorem kw622 : Cond.selects RX2 yX2_term yX2_term ∈ gt := gw3 33 rfl rfl
theorem kw623 : Cond.code yX2_term cX2_term 2 (some .int) ∈ gt := gw3 34 rfl rfl
theorem kw624 : Cond.methodLink RX8 159 yX2_setTerm ∈ gt := gw3 35 rfl rfl
theorem kw625 : Cond.instanceMethod yX2_setTerm ∈ gt := gw3 36 rfl rfl
theorem kw626 : Cond.selects RX2 yX2_setTerm yX2_setTerm ∈ gt := gw3 37 rfl rfl
theorem kw627 : Cond.code yX2_setTerm cX2_setTerm 3 none ∈ gt := gw3 38 rfl rfl
theorem kw632 : Cond.methodLink RX8 163 yX6_hasRoom ∈ gt := gw3 43 rfl rfl
theorem kw633 : Cond.instanceMethod yX6_hasRoom ∈ gt := gw3 44 rfl rfl
theorem kw634 : Cond.selects RX6 yX6_hasRoom yX6_hasRoom ∈ gt := gw3 45 rfl rfl
theorem kw635 : Cond.code yX6_hasRoom cX6_hasRoom 2 (some .boolean) ∈ gt := gw3 46 rfl rfl
theorem kw636 : Cond.methodLink RX8 166 yX6_addNumber ∈ gt := gw3 47 rfl rfl
theorem kw637 : Cond.instanceMethod yX6_addNumber ∈ gt := gw3 48 rfl rfl
theorem kw638 : Cond.selects RX6 yX6_addNumber yX6_addNumber ∈ gt := gw3 49 rfl rfl
theorem kw639 : Cond.code yX6_addNumber cX6_addNumber 3 none ∈ gt := gw3 50 rfl rfl
theorem kw648 : Cond.methodLink RX8 173 yX8_tellRow ∈ gt := gw3 59 rfl rfl
theorem kw650 : Cond.instanceMethod yX8_tellRow ∈ gt := gw3 61 rfl rfl
theorem kw651 : Cond.code yX8_tellRow cX8_tellRow 5 (some .boolean) ∈ gt := gw3 62 rfl rfl
theorem kw652 : Cond.methodLink RX8 315 yX6_byteAt ∈ gt := gw3 63 rfl rfl
theorem kw653 : Cond.instanceMethod yX6_byteAt ∈ gt := gw3 64 rfl rfl
theorem kw654 : Cond.selects RX6 yX6_byteAt yX6_byteAt ∈ gt := gw3 65 rfl rfl
theorem kw655 : Cond.code yX6_byteAt cX6_byteAt 2 (some .int) ∈ gt := gw3 66 rfl rfl
theorem kw664 : Cond.methodLink RX8 179 yX6_readText ∈ gt := gw3 75 rfl rfl
theorem kw665 : Cond.instanceMethod yX6_readText ∈ gt := gw3 76 rfl rfl
theorem kw666 : Cond.selects RX6 yX6_readText yX6_readText ∈ gt := gw3 77 rfl rfl
theorem kw667 : Cond.code yX6_readText cX6_readText 3 (some .boolean) ∈ gt := gw3 78 rfl rfl
theorem kw668 : Cond.methodLink RX6 50 yX0_clear ∈ gt := gw3 79 rfl rfl
theorem kw669 : Cond.instanceMethod yX0_clear ∈ gt := gw3 80 rfl rfl
theorem kw670 : Cond.selects RX0 yX0_clear yX0_clear ∈ gt := gw3 81 rfl rfl
theorem kw671 : Cond.code yX0_clear cX0_clear 1 none ∈ gt := gw3 82 rfl rfl
theorem kw672 : Cond.methodLink RX6 53 yX6_step ∈ gt := gw3 83 rfl rfl
theorem kw674 : Cond.instanceMethod yX6_step ∈ gt := gw3 85 rfl rfl
theorem kw675 : Cond.code yX6_step cX6_step 2 none ∈ gt := gw3 86 rfl rfl
theorem kw676 : Cond.methodLink RX6 148 yX6_byteAt ∈ gt := gw3 87 rfl rfl
theorem kw677 : Cond.methodLink RX6 152 yX6_isLetter ∈ gt := gw3 88 rfl rfl
theorem kw678 : Cond.static yX6_isLetter ∈ gt := gw3 89 rfl rfl
theorem kw679 : Cond.code yX6_isLetter cX6_isLetter 1 (some .boolean) ∈ gt := gw3 90 rfl rfl
theorem kw680 : Cond.methodLink RX6 155 yX6_isDigit ∈ gt := gw3 91 rfl rfl
theorem kw681 : Cond.static yX6_isDigit ∈ gt := gw3 92 rfl rfl
theorem kw682 : Cond.code yX6_isDigit cX6_isDigit 1 (some .boolean) ∈ gt := gw3 93 rfl rfl
theorem kw683 : Cond.methodLink RX6 158 Lib.Math.min.name ∈ gt := gw3 94 rfl rfl
theorem kw684 : Cond.methodLink RX6 56 yX6_readClause ∈ gt := gw3 95 rfl rfl
theorem kw686 : Cond.instanceMethod yX6_readClause ∈ gt := gw3 97 rfl rfl
theorem kw687 : Cond.code yX6_readClause cX6_readClause 3 (some .boolean) ∈ gt := gw3 98 rfl rfl
theorem kw690 : Cond.methodLink RX6 72 yX6_wordOf ∈ gt := gw3 101 rfl rfl
theorem kw692 : Cond.instanceMethod yX6_wordOf ∈ gt := gw3 103 rfl rfl
theorem kw693 : Cond.code yX6_wordOf cX6_wordOf 5 (some .int) ∈ gt := gw3 104 rfl rfl
theorem kw694 : Cond.methodLink RX6 163 yJ0_length_8abf5 ∈ gt := gw3 105 rfl rfl
theorem kw695 : Cond.instanceMethod yJ0_length_8abf5 ∈ gt := gw3 106 rfl rfl
theorem kw696 : Cond.selects RJ0 yJ0_length_8abf5 yJ0_length_8abf5 ∈ gt := gw3 107 rfl rfl
theorem kw697 : Cond.code yJ0_length_8abf5 cJ0_length_8abf5 1 (some .int) ∈ gt := gw3 108 rfl rfl
theorem kw698 : Cond.methodLink RJ0 335 yJ0_coder_7d493 ∈ gt := gw3 109 rfl rfl
theorem kw699 : Cond.instanceMethod yJ0_coder_7d493 ∈ gt := gw3 110 rfl rfl
theorem kw700 : Cond.selects RJ0 yJ0_coder_7d493 yJ0_coder_7d493 ∈ gt := gw3 111 rfl rfl
theorem kw701 : Cond.code yJ0_coder_7d493 cJ0_coder_7d493 1 (some .byte) ∈ gt := gw3 112 rfl rfl
theorem kw702 : Cond.fieldLink RJ0 38 "java/lang/String" "COMPACT_STRINGS" "Z" ∈ gt := gw3 113 rfl rfl
theorem kw704 : Cond.methodLink RX6 169 yJ0_charAt_5068e ∈ gt := gw3 115 rfl rfl
theorem kw705 : Cond.instanceMethod yJ0_charAt_5068e ∈ gt := gw3 116 rfl rfl
theorem kw706 : Cond.selects RJ0 yJ0_charAt_5068e yJ0_charAt_5068e ∈ gt := gw3 117 rfl rfl
theorem kw707 : Cond.code yJ0_charAt_5068e cJ0_charAt_5068e 2 (some .char) ∈ gt := gw3 118 rfl rfl
theorem kw708 : Cond.methodLink RJ0 492 yJ0_isLatin1_aae02 ∈ gt := gw3 119 rfl rfl
theorem kw709 : Cond.instanceMethod yJ0_isLatin1_aae02 ∈ gt := gw3 120 rfl rfl
theorem kw710 : Cond.selects RJ0 yJ0_isLatin1_aae02 yJ0_isLatin1_aae02 ∈ gt := gw3 121 rfl rfl
theorem kw711 : Cond.code yJ0_isLatin1_aae02 cJ0_isLatin1_aae02 1 (some .boolean) ∈ gt := gw3 122 rfl rfl
theorem kw712 : Cond.methodLink RJ0 495 yJ1_charAt_3b067 ∈ gt := gw3 123 rfl rfl
theorem kw713 : Cond.static yJ1_charAt_3b067 ∈ gt := gw3 124 rfl rfl
theorem kw714 : Cond.code yJ1_charAt_3b067 cJ1_charAt_3b067 2 (some .char) ∈ gt := gw3 125 rfl rfl
theorem kw715 : Cond.methodLink RJ1 9 yJ0_checkIndex_df160 ∈ gt := gw3 126 rfl rfl
theorem kw716 : Cond.static yJ0_checkIndex_df160 ∈ gt := gw3 127 rfl rfl
theorem kw717 : Cond.code yJ0_checkIndex_df160 cJ0_checkIndex_df160 2 none ∈ gt := gw3 128 rfl rfl
theorem kw718 : Cond.fieldLink RJ0 1053 "jdk/internal/util/Preconditions" "SIOOBE_FORMATTER" "Ljava/util/function/BiFunction;" ∈ gt := gw3 129 rfl rfl
theorem kw720 : Cond.methodLink RJ0 1059 yJ3_checkIndex_8e157 ∈ gt := gw3 131 rfl rfl
theorem kw721 : Cond.static yJ3_checkIndex_8e157 ∈ gt := gw3 132 rfl rfl
theorem kw722 : Cond.code yJ3_checkIndex_8e157 cJ3_checkIndex_8e157 3 (some .int) ∈ gt := gw3 133 rfl rfl
theorem kw742 : Cond.methodLink RX6 173 yX6_isSame ∈ gt := gw3 153 rfl rfl
theorem kw744 : Cond.instanceMethod yX6_isSame ∈ gt := gw3 155 rfl rfl
theorem kw745 : Cond.code yX6_isSame cX6_isSame 6 (some .boolean) ∈ gt := gw3 156 rfl rfl
theorem kw746 : Cond.methodLink RX6 64 yX6_stop ∈ gt := gw3 157 rfl rfl
theorem kw748 : Cond.instanceMethod yX6_stop ∈ gt := gw3 159 rfl rfl
theorem kw749 : Cond.code yX6_stop cX6_stop 1 (some .boolean) ∈ gt := gw3 160 rfl rfl
theorem kw750 : Cond.methodLink RX6 88 yX6_readSum ∈ gt := gw3 161 rfl rfl
theorem kw752 : Cond.instanceMethod yX6_readSum ∈ gt := gw3 163 rfl rfl
theorem kw753 : Cond.code yX6_readSum cX6_readSum 4 (some .boolean) ∈ gt := gw3 164 rfl rfl
theorem kw754 : Cond.methodLink RX6 130 yX6_readTerm ∈ gt := gw3 165 rfl rfl
theorem kw756 : Cond.instanceMethod yX6_readTerm ∈ gt := gw3 167 rfl rfl
theorem kw757 : Cond.code yX6_readTerm cX6_readTerm 4 (some .boolean) ∈ gt := gw3 168 rfl rfl
theorem kw758 : Cond.methodLink RX6 133 yX6_readPart ∈ gt := gw3 169 rfl rfl
theorem kw760 : Cond.instanceMethod yX6_readPart ∈ gt := gw3 171 rfl rfl
theorem kw761 : Cond.code yX6_readPart cX6_readPart 2 (some .boolean) ∈ gt := gw3 172 rfl rfl
theorem kw762 : Cond.methodLink RX6 60 yX6_isSign ∈ gt := gw3 173 rfl rfl
theorem kw764 : Cond.instanceMethod yX6_isSign ∈ gt := gw3 175 rfl rfl
theorem kw765 : Cond.code yX6_isSign cX6_isSign 2 (some .boolean) ∈ gt := gw3 176 rfl rfl
theorem kw766 : Cond.methodLink RX6 136 yX6_readSinglePart ∈ gt := gw3 177 rfl rfl
theorem kw768 : Cond.instanceMethod yX6_readSinglePart ∈ gt := gw3 179 rfl rfl
theorem kw769 : Cond.code yX6_readSinglePart cX6_readSinglePart 3 (some .boolean) ∈ gt := gw3 180 rfl rfl
theorem kw772 : Cond.methodLink RX6 115 yX0_add ∈ gt := gw3 183 rfl rfl
theorem kw773 : Cond.instanceMethod yX0_add ∈ gt := gw3 184 rfl rfl
theorem kw774 : Cond.selects RX0 yX0_add yX0_add ∈ gt := gw3 185 rfl rfl
theorem kw775 : Cond.code yX0_add cX0_add 3 (some .int) ∈ gt := gw3 186 rfl rfl
theorem kw776 : Cond.methodLink RX6 145 yX3_wordOfPerson ∈ gt := gw3 187 rfl rfl
theorem kw777 : Cond.static yX3_wordOfPerson ∈ gt := gw3 188 rfl rfl
theorem kw778 : Cond.code yX3_wordOfPerson cX3_wordOfPerson 2 (some .int) ∈ gt := gw3 189 rfl rfl
theorem kw780 : Cond.methodLink RX6 95 yX6_isWord ∈ gt := gw3 191 rfl rfl
theorem kw782 : Cond.instanceMethod yX6_isWord ∈ gt := gw3 193 rfl rfl
theorem kw783 : Cond.code yX6_isWord cX6_isWord 2 (some .boolean) ∈ gt := gw3 194 rfl rfl
theorem kw785 : Cond.methodLink RX6 101 yX6_readTest ∈ gt := gw3 196 rfl rfl
theorem kw787 : Cond.instanceMethod yX6_readTest ∈ gt := gw3 198 rfl rfl
theorem kw788 : Cond.code yX6_readTest cX6_readTest 4 (some .boolean) ∈ gt := gw3 199 rfl rfl
theorem kw789 : Cond.methodLink RX6 110 yX6_readBoth ∈ gt := gw3 200 rfl rfl
theorem kw791 : Cond.instanceMethod yX6_readBoth ∈ gt := gw3 202 rfl rfl
theorem kw792 : Cond.code yX6_readBoth cX6_readBoth 4 (some .boolean) ∈ gt := gw3 203 rfl rfl
theorem kw793 : Cond.methodLink RX6 123 yX6_readPlain ∈ gt := gw3 204 rfl rfl
theorem kw795 : Cond.instanceMethod yX6_readPlain ∈ gt := gw3 206 rfl rfl
theorem kw796 : Cond.code yX6_readPlain cX6_readPlain 4 (some .boolean) ∈ gt := gw3 207 rfl rfl
theorem kw799 : Cond.methodLink RX6 119 yX0_land ∈ gt := gw3 210 rfl rfl
theorem kw800 : Cond.instanceMethod yX0_land ∈ gt := gw3 211 rfl rfl
theorem kw801 : Cond.selects RX0 yX0_land yX0_land ∈ gt := gw3 212 rfl rfl
theorem kw802 : Cond.code yX0_land cX0_land 2 none ∈ gt := gw3 213 rfl rfl
theorem kw811 : Cond.static arraycopyName ∈ gt := gw3 222 rfl rfl
theorem kw812 : Cond.native arraycopyName ∈ gt := gw3 223 rfl rfl
theorem kw822 : Cond.methodLink RX8 196 yX4_set ∈ gt := gw3 233 rfl rfl
theorem kw823 : Cond.instanceMethod yX4_set ∈ gt := gw3 234 rfl rfl
theorem kw824 : Cond.selects RX4 yX4_set yX4_set ∈ gt := gw3 235 rfl rfl
theorem kw825 : Cond.code yX4_set cX4_set 2 none ∈ gt := gw3 236 rfl rfl
theorem kw826 : Cond.methodLink RX4 28 arraycopyName ∈ gt := gw3 237 rfl rfl
theorem kw827 : Cond.methodLink RX8 200 yX5_set ∈ gt := gw3 238 rfl rfl
theorem kw828 : Cond.instanceMethod yX5_set ∈ gt := gw3 239 rfl rfl
theorem kw829 : Cond.selects RX5 yX5_set yX5_set ∈ gt := gw4 0 rfl rfl
theorem kw830 : Cond.code yX5_set cX5_set 2 none ∈ gt := gw4 1 rfl rfl
theorem kw831 : Cond.methodLink RX5 34 arraycopyName ∈ gt := gw4 2 rfl rfl
theorem kw832 : Cond.methodLink RX8 209 yX8_obey ∈ gt := gw4 3 rfl rfl
theorem kw834 : Cond.instanceMethod yX8_obey ∈ gt := gw4 5 rfl rfl
theorem kw835 : Cond.code yX8_obey cX8_obey 7 (some .boolean) ∈ gt := gw4 6 rfl rfl
theorem kw836 : Cond.methodLink RX8 318 yX3_setOrderWords ∈ gt := gw4 7 rfl rfl
theorem kw837 : Cond.instanceMethod yX3_setOrderWords ∈ gt := gw4 8 rfl rfl
theorem kw838 : Cond.selects RX3 yX3_setOrderWords yX3_setOrderWords ∈ gt := gw4 9 rfl rfl
theorem kw839 : Cond.code yX3_setOrderWords cX3_setOrderWords 5 none ∈ gt := gw4 10 rfl rfl
theorem kw840 : Cond.methodLink RX3 51 yJ6_bitCount_0f7a4 ∈ gt := gw4 11 rfl rfl
theorem kw841 : Cond.static yJ6_bitCount_0f7a4 ∈ gt := gw4 12 rfl rfl
theorem kw842 : Cond.code yJ6_bitCount_0f7a4 cJ6_bitCount_0f7a4 1 (some .int) ∈ gt := gw4 13 rfl rfl
theorem kw843 : Cond.constant RJ6 265 (1431655765) ∈ gt := gw4 14 rfl rfl
theorem kw844 : Cond.constant RJ6 266 (858993459) ∈ gt := gw4 15 rfl rfl
theorem kw845 : Cond.constant RJ6 267 (252645135) ∈ gt := gw4 16 rfl rfl
theorem kw846 : Cond.methodLink RX3 57 yX2_isPerson ∈ gt := gw4 17 rfl rfl
theorem kw847 : Cond.methodLink RX8 328 yX3_worth ∈ gt := gw4 18 rfl rfl
theorem kw848 : Cond.constantLong RX8 335 (-9000000000000000000) ∈ gt := gw4 19 rfl rfl
theorem kw849 : Cond.methodLink RX8 222 yX1_moved ∈ gt := gw4 20 rfl rfl
theorem kw850 : Cond.instanceMethod yX1_moved ∈ gt := gw4 21 rfl rfl
theorem kw851 : Cond.selects RX1 yX1_moved yX1_moved ∈ gt := gw4 22 rfl rfl
theorem kw852 : Cond.code yX1_moved cX1_moved 5 (some .int) ∈ gt := gw4 23 rfl rfl
theorem kw853 : Cond.methodLink RX1 111 yX2_lawInForce ∈ gt := gw4 24 rfl rfl
theorem kw854 : Cond.methodLink RX1 115 yX1_lineUp ∈ gt := gw4 25 rfl rfl
theorem kw855 : Cond.methodLink RX1 125 yX5_keep ∈ gt := gw4 26 rfl rfl
theorem kw856 : Cond.instanceMethod yX5_keep ∈ gt := gw4 27 rfl rfl
theorem kw857 : Cond.selects RX5 yX5_keep yX5_keep ∈ gt := gw4 28 rfl rfl
theorem kw858 : Cond.code yX5_keep cX5_keep 4 none ∈ gt := gw4 29 rfl rfl
theorem kw859 : Cond.methodLink RX5 27 yX4_writeTo ∈ gt := gw4 30 rfl rfl
theorem kw860 : Cond.instanceMethod yX4_writeTo ∈ gt := gw4 31 rfl rfl
theorem kw861 : Cond.selects RX4 yX4_writeTo yX4_writeTo ∈ gt := gw4 32 rfl rfl
theorem kw862 : Cond.code yX4_writeTo cX4_writeTo 3 none ∈ gt := gw4 33 rfl rfl
theorem kw863 : Cond.methodLink RX1 131 yX1_heldRace ∈ gt := gw4 34 rfl rfl
theorem kw865 : Cond.instanceMethod yX1_heldRace ∈ gt := gw4 36 rfl rfl
theorem kw866 : Cond.code yX1_heldRace cX1_heldRace 10 (some .int) ∈ gt := gw4 37 rfl rfl
theorem kw867 : Cond.methodLink RX1 145 yX1_at ∈ gt := gw4 38 rfl rfl
theorem kw868 : Cond.methodLink RX1 148 yX1_wins ∈ gt := gw4 39 rfl rfl
theorem kw870 : Cond.instanceMethod yX1_wins ∈ gt := gw4 41 rfl rfl
theorem kw871 : Cond.code yX1_wins cX1_wins 7 (some .int) ∈ gt := gw4 42 rfl rfl
theorem kw872 : Cond.methodLink RX1 152 yX1_turnsTo ∈ gt := gw4 43 rfl rfl
theorem kw873 : Cond.instanceMethod yX1_turnsTo ∈ gt := gw4 44 rfl rfl
theorem kw874 : Cond.selects RX1 yX1_turnsTo yX1_turnsTo ∈ gt := gw4 45 rfl rfl
theorem kw875 : Cond.code yX1_turnsTo cX1_turnsTo 6 (some .int) ∈ gt := gw4 46 rfl rfl
theorem kw876 : Cond.methodLink RX1 155 Lib.Math.min.name ∈ gt := gw4 47 rfl rfl
theorem kw877 : Cond.methodLink RX1 158 yX4_addPrizes ∈ gt := gw4 48 rfl rfl
theorem kw878 : Cond.instanceMethod yX4_addPrizes ∈ gt := gw4 49 rfl rfl
theorem kw879 : Cond.selects RX4 yX4_addPrizes yX4_addPrizes ∈ gt := gw4 50 rfl rfl
theorem kw880 : Cond.code yX4_addPrizes cX4_addPrizes 3 none ∈ gt := gw4 51 rfl rfl
theorem kw881 : Cond.methodLink RX4 34 Lib.Math.min.name ∈ gt := gw4 52 rfl rfl
theorem kw882 : Cond.methodLink RX1 135 yX1_changedEntry ∈ gt := gw4 53 rfl rfl
theorem kw884 : Cond.instanceMethod yX1_changedEntry ∈ gt := gw4 55 rfl rfl
theorem kw885 : Cond.code yX1_changedEntry cX1_changedEntry 2 (some .int) ∈ gt := gw4 56 rfl rfl
theorem kw886 : Cond.methodLink RX1 138 yX1_takenGap ∈ gt := gw4 57 rfl rfl
theorem kw888 : Cond.instanceMethod yX1_takenGap ∈ gt := gw4 59 rfl rfl
theorem kw889 : Cond.code yX1_takenGap cX1_takenGap 3 (some .int) ∈ gt := gw4 60 rfl rfl
theorem kw890 : Cond.methodLink RX1 141 yX1_passedYear ∈ gt := gw4 61 rfl rfl
theorem kw892 : Cond.instanceMethod yX1_passedYear ∈ gt := gw4 63 rfl rfl
theorem kw893 : Cond.code yX1_passedYear cX1_passedYear 4 (some .int) ∈ gt := gw4 64 rfl rfl
theorem kw894 : Cond.methodLink RX1 165 yX1_hasTradeOfLower ∈ gt := gw4 65 rfl rfl
theorem kw896 : Cond.instanceMethod yX1_hasTradeOfLower ∈ gt := gw4 67 rfl rfl
theorem kw897 : Cond.code yX1_hasTradeOfLower cX1_hasTradeOfLower 3 (some .boolean) ∈ gt := gw4 68 rfl rfl
theorem kw910 : Cond.methodLink RX8 216 yX2_isLaw ∈ gt := gw4 81 rfl rfl
theorem kw915 : Cond.methodLink RX8 226 yX8_answer ∈ gt := gw4 86 rfl rfl
theorem kw917 : Cond.instanceMethod yX8_answer ∈ gt := gw4 88 rfl rfl
theorem kw918 : Cond.code yX8_answer cX8_answer 2 (some .int) ∈ gt := gw4 89 rfl rfl
theorem kw935 : Cond.methodLink RX8 230 yX5_bringBack ∈ gt := gw4 106 rfl rfl
theorem kw936 : Cond.instanceMethod yX5_bringBack ∈ gt := gw4 107 rfl rfl
theorem kw937 : Cond.selects RX5 yX5_bringBack yX5_bringBack ∈ gt := gw4 108 rfl rfl
theorem kw938 : Cond.code yX5_bringBack cX5_bringBack 3 (some .int) ∈ gt := gw4 109 rfl rfl
theorem kw939 : Cond.methodLink RX5 31 yX4_readFrom ∈ gt := gw4 110 rfl rfl
theorem kw940 : Cond.instanceMethod yX4_readFrom ∈ gt := gw4 111 rfl rfl
theorem kw941 : Cond.selects RX4 yX4_readFrom yX4_readFrom ∈ gt := gw4 112 rfl rfl
theorem kw942 : Cond.code yX4_readFrom cX4_readFrom 3 none ∈ gt := gw4 113 rfl rfl
theorem kw947 : Cond.methodLink RX8 234 yX7_changedEntries ∈ gt := gw4 118 rfl rfl
theorem kw948 : Cond.instanceMethod yX7_changedEntries ∈ gt := gw4 119 rfl rfl
theorem kw949 : Cond.selects RX7 yX7_changedEntries yX7_changedEntries ∈ gt := gw4 120 rfl rfl
theorem kw950 : Cond.code yX7_changedEntries cX7_changedEntries 7 (some .int) ∈ gt := gw4 121 rfl rfl
theorem kw951 : Cond.methodLink RX7 66 yX7_setScores ∈ gt := gw4 122 rfl rfl
theorem kw953 : Cond.instanceMethod yX7_setScores ∈ gt := gw4 124 rfl rfl
theorem kw954 : Cond.code yX7_setScores cX7_setScores 4 none ∈ gt := gw4 125 rfl rfl
theorem kw955 : Cond.methodLink RX7 49 yX2_lawInForce ∈ gt := gw4 126 rfl rfl
theorem kw956 : Cond.methodLink RX7 58 yX1_isBarred ∈ gt := gw4 127 rfl rfl
theorem kw957 : Cond.methodLink RX7 62 yX1_runsBy ∈ gt := gw4 128 rfl rfl
theorem kw958 : Cond.methodLink RX7 70 yX7_aheadOf ∈ gt := gw4 129 rfl rfl
theorem kw960 : Cond.instanceMethod yX7_aheadOf ∈ gt := gw4 131 rfl rfl
theorem kw961 : Cond.code yX7_aheadOf cX7_aheadOf 7 (some .int) ∈ gt := gw4 132 rfl rfl
theorem kw962 : Cond.methodLink RX7 83 yJ6_bitCount_0f7a4 ∈ gt := gw4 133 rfl rfl
theorem kw963 : Cond.methodLink RX7 89 yX7_lowestBits ∈ gt := gw4 134 rfl rfl
theorem kw964 : Cond.static yX7_lowestBits ∈ gt := gw4 135 rfl rfl
theorem kw965 : Cond.code yX7_lowestBits cX7_lowestBits 5 (some .int) ∈ gt := gw4 136 rfl rfl
theorem kw966 : Cond.methodLink RX8 238 yJ6_bitCount_0f7a4 ∈ gt := gw4 137 rfl rfl
theorem kw971 : Cond.methodLink RX8 246 yX2_addSeen ∈ gt := gw4 142 rfl rfl
theorem kw972 : Cond.instanceMethod yX2_addSeen ∈ gt := gw4 143 rfl rfl
theorem kw973 : Cond.selects RX2 yX2_addSeen yX2_addSeen ∈ gt := gw4 144 rfl rfl
theorem kw974 : Cond.code yX2_addSeen cX2_addSeen 3 (some .int) ∈ gt := gw4 145 rfl rfl
theorem kw983 : Cond.methodLink RX8 249 yX7_suspects ∈ gt := gw4 154 rfl rfl
theorem kw984 : Cond.instanceMethod yX7_suspects ∈ gt := gw4 155 rfl rfl
theorem kw985 : Cond.selects RX7 yX7_suspects yX7_suspects ∈ gt := gw4 156 rfl rfl
theorem kw986 : Cond.code yX7_suspects cX7_suspects 3 (some .int) ∈ gt := gw4 157 rfl rfl
theorem kw987 : Cond.methodLink RX7 92 yX7_fitsAllSeen ∈ gt := gw4 158 rfl rfl
theorem kw989 : Cond.instanceMethod yX7_fitsAllSeen ∈ gt := gw4 160 rfl rfl
theorem kw990 : Cond.code yX7_fitsAllSeen cX7_fitsAllSeen 3 (some .boolean) ∈ gt := gw4 161 rfl rfl
theorem kw991 : Cond.methodLink RX7 102 yX1_turnsTo ∈ gt := gw4 162 rfl rfl
theorem kw996 : Cond.methodLink RX8 253 yX7_raceToWatch ∈ gt := gw4 167 rfl rfl
theorem kw997 : Cond.instanceMethod yX7_raceToWatch ∈ gt := gw4 168 rfl rfl
theorem kw998 : Cond.selects RX7 yX7_raceToWatch yX7_raceToWatch ∈ gt := gw4 169 rfl rfl
theorem kw999 : Cond.code yX7_raceToWatch cX7_raceToWatch 5 (some .int) ∈ gt := gw4 170 rfl rfl
theorem kw1000 : Cond.methodLink RX7 108 yX7_suspects ∈ gt := gw4 171 rfl rfl
theorem kw1001 : Cond.methodLink RX7 112 yX7_alikeMost ∈ gt := gw4 172 rfl rfl
theorem kw1003 : Cond.instanceMethod yX7_alikeMost ∈ gt := gw4 174 rfl rfl
theorem kw1004 : Cond.code yX7_alikeMost cX7_alikeMost 6 (some .int) ∈ gt := gw4 175 rfl rfl
theorem kw1005 : Cond.methodLink RX7 115 yJ7_fill_53178 ∈ gt := gw4 176 rfl rfl
theorem kw1006 : Cond.static yJ7_fill_53178 ∈ gt := gw4 177 rfl rfl
theorem kw1007 : Cond.code yJ7_fill_53178 cJ7_fill_53178 4 none ∈ gt := gw4 178 rfl rfl
theorem kw1008 : Cond.methodLink RX7 121 Lib.Math.max.name ∈ gt := gw4 179 rfl rfl
theorem kw1013 : Cond.methodLink RX8 259 yX7_rankAll ∈ gt := gw4 184 rfl rfl
theorem kw1014 : Cond.instanceMethod yX7_rankAll ∈ gt := gw4 185 rfl rfl
theorem kw1015 : Cond.selects RX7 yX7_rankAll yX7_rankAll ∈ gt := gw4 186 rfl rfl
theorem kw1016 : Cond.code yX7_rankAll cX7_rankAll 5 (some .int) ∈ gt := gw4 187 rfl rfl
theorem kw1017 : Cond.methodLink RX7 126 yX7_brokenBy ∈ gt := gw4 188 rfl rfl
theorem kw1019 : Cond.instanceMethod yX7_brokenBy ∈ gt := gw4 190 rfl rfl
theorem kw1020 : Cond.code yX7_brokenBy cX7_brokenBy 3 (some .int) ∈ gt := gw4 191 rfl rfl
theorem kw1021 : Cond.methodLink RX7 129 Lib.Math.min.name ∈ gt := gw4 192 rfl rfl
theorem kw1022 : Cond.methodLink RX7 132 yX7_firstNext ∈ gt := gw4 193 rfl rfl
theorem kw1024 : Cond.instanceMethod yX7_firstNext ∈ gt := gw4 195 rfl rfl
theorem kw1025 : Cond.code yX7_firstNext cX7_firstNext 3 (some .int) ∈ gt := gw4 196 rfl rfl
theorem kw1030 : Cond.methodLink RX8 265 yX7_circleCount ∈ gt := gw4 201 rfl rfl
theorem kw1031 : Cond.instanceMethod yX7_circleCount ∈ gt := gw4 202 rfl rfl
theorem kw1032 : Cond.selects RX7 yX7_circleCount yX7_circleCount ∈ gt := gw4 203 rfl rfl
theorem kw1033 : Cond.code yX7_circleCount cX7_circleCount 5 (some .int) ∈ gt := gw4 204 rfl rfl
theorem kw1034 : Cond.methodLink RX7 138 yX7_isCircle ∈ gt := gw4 205 rfl rfl
theorem kw1036 : Cond.instanceMethod yX7_isCircle ∈ gt := gw4 207 rfl rfl
theorem kw1037 : Cond.code yX7_isCircle cX7_isCircle 4 (some .boolean) ∈ gt := gw4 208 rfl rfl
theorem kw1042 : Cond.methodLink RX8 268 yX7_crownAll ∈ gt := gw4 213 rfl rfl
theorem kw1043 : Cond.instanceMethod yX7_crownAll ∈ gt := gw4 214 rfl rfl
theorem kw1044 : Cond.selects RX7 yX7_crownAll yX7_crownAll ∈ gt := gw4 215 rfl rfl
theorem kw1045 : Cond.code yX7_crownAll cX7_crownAll 4 (some .int) ∈ gt := gw4 216 rfl rfl
theorem kw1046 : Cond.methodLink RX7 142 yX7_bestFrom ∈ gt := gw4 217 rfl rfl
theorem kw1048 : Cond.instanceMethod yX7_bestFrom ∈ gt := gw4 219 rfl rfl
theorem kw1049 : Cond.code yX7_bestFrom cX7_bestFrom 5 (some .int) ∈ gt := gw4 220 rfl rfl
theorem kw1050 : Cond.methodLink RX7 148 yX7_scoreWith ∈ gt := gw4 221 rfl rfl
theorem kw1052 : Cond.instanceMethod yX7_scoreWith ∈ gt := gw4 223 rfl rfl
theorem kw1053 : Cond.code yX7_scoreWith cX7_scoreWith 5 (some .int) ∈ gt := gw4 224 rfl rfl
theorem kw1054 : Cond.methodLink RX7 145 yX7_firstCrowned ∈ gt := gw4 225 rfl rfl
theorem kw1056 : Cond.instanceMethod yX7_firstCrowned ∈ gt := gw4 227 rfl rfl
theorem kw1057 : Cond.code yX7_firstCrowned cX7_firstCrowned 4 (some .int) ∈ gt := gw4 228 rfl rfl
theorem kw1062 : Cond.methodLink RX8 271 yX7_lineOfHeirs ∈ gt := gw4 233 rfl rfl
theorem kw1063 : Cond.instanceMethod yX7_lineOfHeirs ∈ gt := gw4 234 rfl rfl
theorem kw1064 : Cond.selects RX7 yX7_lineOfHeirs yX7_lineOfHeirs ∈ gt := gw4 235 rfl rfl
theorem kw1065 : Cond.code yX7_lineOfHeirs cX7_lineOfHeirs 5 (some .int) ∈ gt := gw4 236 rfl rfl
theorem kw1066 : Cond.methodLink RX7 152 yX7_awaitChildren ∈ gt := gw4 237 rfl rfl
theorem kw1068 : Cond.instanceMethod yX7_awaitChildren ∈ gt := gw4 239 rfl rfl
theorem kw1069 : Cond.code yX7_awaitChildren cX7_awaitChildren 5 (some .int) ∈ gt := gw5 0 rfl rfl
theorem kw1070 : Cond.methodLink RX7 155 yX7_elders ∈ gt := gw5 1 rfl rfl
theorem kw1072 : Cond.instanceMethod yX7_elders ∈ gt := gw5 3 rfl rfl
theorem kw1073 : Cond.code yX7_elders cX7_elders 4 (some .int) ∈ gt := gw5 4 rfl rfl
theorem kw1078 : Cond.constantLong RX8 274 (-1) ∈ gt := gw5 9 rfl rfl
theorem kw1079 : Cond.methodLink RX8 276 yX7_waysUp ∈ gt := gw5 10 rfl rfl
theorem kw1080 : Cond.instanceMethod yX7_waysUp ∈ gt := gw5 11 rfl rfl
theorem kw1081 : Cond.selects RX7 yX7_waysUp yX7_waysUp ∈ gt := gw5 12 rfl rfl
theorem kw1082 : Cond.code yX7_waysUp cX7_waysUp 7 (some .long) ∈ gt := gw5 13 rfl rfl
theorem kw1083 : Cond.constantLong RX7 161 (-1) ∈ gt := gw5 14 rfl rfl
theorem kw1088 : Cond.methodLink RX8 280 yX7_neverSecond ∈ gt := gw5 19 rfl rfl
theorem kw1089 : Cond.instanceMethod yX7_neverSecond ∈ gt := gw5 20 rfl rfl
theorem kw1090 : Cond.selects RX7 yX7_neverSecond yX7_neverSecond ∈ gt := gw5 21 rfl rfl
theorem kw1091 : Cond.code yX7_neverSecond cX7_neverSecond 4 (some .int) ∈ gt := gw5 22 rfl rfl
theorem kw1096 : Cond.methodLink RX8 283 yX7_chanceOfFewer ∈ gt := gw5 27 rfl rfl
theorem kw1097 : Cond.instanceMethod yX7_chanceOfFewer ∈ gt := gw5 28 rfl rfl
theorem kw1098 : Cond.selects RX7 yX7_chanceOfFewer yX7_chanceOfFewer ∈ gt := gw5 29 rfl rfl
theorem kw1099 : Cond.code yX7_chanceOfFewer cX7_chanceOfFewer 8 (some .long) ∈ gt := gw5 30 rfl rfl
theorem kw1100 : Cond.methodLink RX7 163 yJ7_fill_d0a16 ∈ gt := gw5 31 rfl rfl
theorem kw1101 : Cond.static yJ7_fill_d0a16 ∈ gt := gw5 32 rfl rfl
theorem kw1102 : Cond.code yJ7_fill_d0a16 cJ7_fill_d0a16 5 none ∈ gt := gw5 33 rfl rfl
theorem kw1103 : Cond.constantLong RX7 166 (1000000000000) ∈ gt := gw5 34 rfl rfl
theorem kw1104 : Cond.constantLong RX7 171 (10) ∈ gt := gw5 35 rfl rfl
theorem kw1109 : Cond.methodLink RX8 286 yX2_lawAt ∈ gt := gw5 40 rfl rfl
theorem kw1114 : Cond.constant RX8 290 (1000000) ∈ gt := gw5 45 rfl rfl
theorem kw1115 : Cond.methodLink RX8 291 yX2_set ∈ gt := gw5 46 rfl rfl
theorem kw1116 : Cond.instanceMethod yX2_set ∈ gt := gw5 47 rfl rfl
theorem kw1117 : Cond.selects RX2 yX2_set yX2_set ∈ gt := gw5 48 rfl rfl
theorem kw1118 : Cond.code yX2_set cX2_set 3 none ∈ gt := gw5 49 rfl rfl
theorem kw1119 : Cond.methodLink RX2 59 yX4_set ∈ gt := gw5 50 rfl rfl
theorem kw1120 : Cond.methodLink RX2 63 arraycopyName ∈ gt := gw5 51 rfl rfl
theorem kw1121 : Cond.methodLink RX8 297 yX8_nextDraw ∈ gt := gw5 52 rfl rfl
theorem kw1122 : Cond.static yX8_nextDraw ∈ gt := gw5 53 rfl rfl
theorem kw1123 : Cond.code yX8_nextDraw cX8_nextDraw 1 (some .int) ∈ gt := gw5 54 rfl rfl
theorem kw1124 : Cond.constantLong RX8 309 (1103) ∈ gt := gw5 55 rfl rfl
theorem kw1125 : Cond.constantLong RX8 311 (12345) ∈ gt := gw5 56 rfl rfl
theorem kw1126 : Cond.constantLong RX8 313 (1000003) ∈ gt := gw5 57 rfl rfl
theorem kw1143 : Cond.methodLink RX8 306 yX2_allPrizes ∈ gt := gw5 74 rfl rfl
theorem kw1144 : Cond.instanceMethod yX2_allPrizes ∈ gt := gw5 75 rfl rfl
theorem kw1145 : Cond.selects RX2 yX2_allPrizes yX2_allPrizes ∈ gt := gw5 76 rfl rfl
theorem kw1146 : Cond.code yX2_allPrizes cX2_allPrizes 3 (some .int) ∈ gt := gw5 77 rfl rfl
theorem kw1176 : Cond.fieldLink RX9 165 "NoSecondModel" "thrown" "I" ∈ gt := gw5 107 rfl rfl
theorem kw1177 : Cond.fieldLink RX9 168 "NoSecondModel" "status" "I" ∈ gt := gw5 108 rfl rfl
theorem kw1178 : Cond.fieldLink RX9 7 "NoSecondModel" "refusals" "[I" ∈ gt := gw5 109 rfl rfl
theorem kw1179 : Cond.fieldLink RX9 13 "NoSecondModel" "row" "[I" ∈ gt := gw5 110 rfl rfl
theorem kw1180 : Cond.fieldLink RX9 16 "NoSecondModel" "images" "[I" ∈ gt := gw5 111 rfl rfl
theorem kw1181 : Cond.fieldLink RX9 19 "NoSecondModel" "isKept" "[Z" ∈ gt := gw5 112 rfl rfl
theorem kw1182 : Cond.fieldLink RX9 23 "NoSecondModel" "undos" "[I" ∈ gt := gw5 113 rfl rfl
theorem kw1183 : Cond.fieldLink RX9 26 "NoSecondModel" "sorts" "[I" ∈ gt := gw5 114 rfl rfl
theorem kw1184 : Cond.fieldLink RX9 171 "NoSecondModel" "nUndo" "I" ∈ gt := gw5 115 rfl rfl
theorem kw1185 : Cond.fieldLink RX9 29 "NoSecondModel" "undosBefore" "[I" ∈ gt := gw5 116 rfl rfl
theorem kw1186 : Cond.fieldLink RX9 32 "NoSecondModel" "sortsBefore" "[I" ∈ gt := gw5 117 rfl rfl
theorem kw1187 : Cond.fieldLink RX9 234 "NoSecondModel" "blots" "I" ∈ gt := gw5 118 rfl rfl
theorem kw1188 : Cond.fieldLink RX9 35 "NoSecondModel" "tape" "[I" ∈ gt := gw5 119 rfl rfl
theorem kw1189 : Cond.fieldLink RX9 231 "NoSecondModel" "taped" "I" ∈ gt := gw5 120 rfl rfl
theorem kw1190 : Cond.fieldLink RX9 253 "NoSecondModel" "from" "I" ∈ gt := gw5 121 rfl rfl
theorem kw1191 : Cond.fieldLink RX9 243 "NoSecondModel" "to" "I" ∈ gt := gw5 122 rfl rfl
theorem kw1192 : Cond.fieldLink RX9 266 "NoSecondModel" "sort" "I" ∈ gt := gw5 123 rfl rfl
theorem kw1193 : Cond.fieldLink RX9 256 "NoSecondModel" "worth" "J" ∈ gt := gw5 124 rfl rfl
theorem kw1194 : Cond.fieldLink RX9 38 "NoSecondModel" "fault" "I" ∈ gt := gw5 125 rfl rfl
theorem kw1195 : Cond.fieldLink RX9 246 "NoSecondModel" "bad" "Z" ∈ gt := gw5 126 rfl rfl
theorem kw1196 : Cond.fieldLink RX9 323 "NoSecondModel" "ordered" "Z" ∈ gt := gw5 127 rfl rfl
theorem kw1197 : Cond.fieldLink RX9 377 "NoSecondModel" "nClauses" "I" ∈ gt := gw5 128 rfl rfl
theorem kw1198 : Cond.fieldLink RX9 42 "NoSecondModel" "nClause" "[I" ∈ gt := gw5 129 rfl rfl
theorem kw1199 : Cond.fieldLink RX9 283 "NoSecondModel" "nCode" "I" ∈ gt := gw5 130 rfl rfl
theorem kw1200 : Cond.fieldLink RX9 45 "NoSecondModel" "nOp" "[I" ∈ gt := gw5 131 rfl rfl
theorem kw1201 : Cond.fieldLink RX9 48 "NoSecondModel" "nArg" "[I" ∈ gt := gw5 132 rfl rfl
theorem kw1202 : Cond.fieldLink RX9 314 "NoSecondModel" "nLeaves" "I" ∈ gt := gw5 133 rfl rfl
theorem kw1203 : Cond.fieldLink RX9 51 "NoSecondModel" "pile" "[I" ∈ gt := gw5 134 rfl rfl
theorem kw1204 : Cond.fieldLink RX9 54 "NoSecondModel" "pileAt" "[I" ∈ gt := gw5 135 rfl rfl
theorem kw1205 : Cond.fieldLink RX9 286 "NoSecondModel" "piled" "I" ∈ gt := gw5 136 rfl rfl
theorem kw1206 : Cond.fieldLink RX9 308 "NoSecondModel" "opened" "I" ∈ gt := gw5 137 rfl rfl
theorem kw1207 : Cond.fieldLink RX9 75 "NoSecondModel" "words" "[J" ∈ gt := gw5 138 rfl rfl
theorem kw1208 : Cond.fieldLink RX9 85 "NoSecondModel" "orderWords" "[J" ∈ gt := gw5 139 rfl rfl
theorem kw1209 : Cond.fieldLink RX9 96 "NoSecondModel" "heads" "[J" ∈ gt := gw5 140 rfl rfl
theorem kw1210 : Cond.fieldLink RX9 400 "NoSecondModel" "law" "I" ∈ gt := gw5 141 rfl rfl
theorem kw1211 : Cond.fieldLink RX9 99 "NoSecondModel" "set" "[J" ∈ gt := gw5 142 rfl rfl
theorem kw1212 : Cond.fieldLink RX9 102 "NoSecondModel" "now" "[J" ∈ gt := gw5 143 rfl rfl
theorem kw1213 : Cond.fieldLink RX9 105 "NoSecondModel" "rest" "[J" ∈ gt := gw5 144 rfl rfl
theorem kw1214 : Cond.fieldLink RX9 397 "NoSecondModel" "broken" "Z" ∈ gt := gw5 145 rfl rfl
theorem kw1215 : Cond.fieldLink RX9 411 "NoSecondModel" "value" "J" ∈ gt := gw5 146 rfl rfl
theorem kw1216 : Cond.fieldLink RX9 417 "NoSecondModel" "sum" "J" ∈ gt := gw5 147 rfl rfl
theorem kw1217 : Cond.fieldLink RX9 108 "NoSecondModel" "run1" "[I" ∈ gt := gw5 148 rfl rfl
theorem kw1218 : Cond.fieldLink RX9 111 "NoSecondModel" "ranked" "[I" ∈ gt := gw5 149 rfl rfl
theorem kw1219 : Cond.fieldLink RX9 224 "NoSecondModel" "running" "I" ∈ gt := gw5 150 rfl rfl
theorem kw1220 : Cond.fieldLink RX9 114 "NoSecondModel" "barred" "[Z" ∈ gt := gw5 151 rfl rfl
theorem kw1221 : Cond.fieldLink RX9 117 "NoSecondModel" "alike" "[I" ∈ gt := gw5 152 rfl rfl
theorem kw1222 : Cond.fieldLink RX9 120 "NoSecondModel" "left" "[I" ∈ gt := gw5 153 rfl rfl
theorem kw1223 : Cond.fieldLink RX9 123 "NoSecondModel" "scores" "[I" ∈ gt := gw5 154 rfl rfl
theorem kw1224 : Cond.fieldLink RX9 126 "NoSecondModel" "tried" "[I" ∈ gt := gw5 155 rfl rfl
theorem kw1225 : Cond.fieldLink RX9 129 "NoSecondModel" "bestRow" "[I" ∈ gt := gw5 156 rfl rfl
theorem kw1226 : Cond.fieldLink RX9 132 "NoSecondModel" "pile1" "[I" ∈ gt := gw5 157 rfl rfl
theorem kw1227 : Cond.fieldLink RX9 135 "NoSecondModel" "line" "[I" ∈ gt := gw5 158 rfl rfl
theorem kw1228 : Cond.fieldLink RX9 138 "NoSecondModel" "rungs" "[J" ∈ gt := gw5 159 rfl rfl
theorem kw1229 : Cond.fieldLink RX9 141 "NoSecondModel" "parts" "[J" ∈ gt := gw5 160 rfl rfl
theorem kw1230 : Cond.fieldLink RX9 150 "NoSecondModel" "acts" "[J" ∈ gt := gw5 161 rfl rfl
theorem kw1231 : Cond.fieldLink RX9 153 "NoSecondModel" "nOrder" "[I" ∈ gt := gw5 162 rfl rfl
theorem kw1232 : Cond.fieldLink RX9 523 "NoSecondModel" "done" "I" ∈ gt := gw5 163 rfl rfl
theorem kw1233 : Cond.fieldLink RX9 526 "NoSecondModel" "latest" "I" ∈ gt := gw5 164 rfl rfl
theorem kw1234 : Cond.fieldLink RX9 156 "NoSecondModel" "stopped" "I" ∈ gt := gw5 165 rfl rfl
theorem kw1235 : Cond.fieldLink RX9 520 "NoSecondModel" "off" "Z" ∈ gt := gw5 166 rfl rfl
theorem kw1236 : Cond.fieldLink RX9 547 "NoSecondModel" "state" "J" ∈ gt := gw5 167 rfl rfl
theorem kw1237 : Cond.fieldLink RX9 159 "NoSecondModel" "drawn" "[I" ∈ gt := gw5 168 rfl rfl
theorem kw1238 : Cond.fieldLink RX9 162 "NoSecondModel" "drawnPeople" "I" ∈ gt := gw5 169 rfl rfl
theorem kw1371 : Cond.methodLink RX9 174 yX9_tell ∈ gt := gw6 62 rfl rfl
theorem kw1373 : Cond.instanceMethod yX9_tell ∈ gt := gw6 64 rfl rfl
theorem kw1374 : Cond.code yX9_tell cX9_tell 2 (some .int) ∈ gt := gw6 65 rfl rfl
theorem kw1375 : Cond.methodLink RX9 182 yX9_putBack ∈ gt := gw6 66 rfl rfl
theorem kw1377 : Cond.instanceMethod yX9_putBack ∈ gt := gw6 68 rfl rfl
theorem kw1378 : Cond.code yX9_putBack cX9_putBack 3 none ∈ gt := gw6 69 rfl rfl
theorem kw1383 : Cond.methodLink RX9 185 yX9_in ∈ gt := gw6 74 rfl rfl
theorem kw1384 : Cond.static yX9_in ∈ gt := gw6 75 rfl rfl
theorem kw1385 : Cond.code yX9_in cX9_in 6 (some .boolean) ∈ gt := gw6 76 rfl rfl
theorem kw1390 : Cond.methodLink RX9 189 yX9_settled ∈ gt := gw6 81 rfl rfl
theorem kw1392 : Cond.instanceMethod yX9_settled ∈ gt := gw6 83 rfl rfl
theorem kw1393 : Cond.code yX9_settled cX9_settled 2 (some .int) ∈ gt := gw6 84 rfl rfl
theorem kw1398 : Cond.constantLong RX9 198 (9) ∈ gt := gw6 89 rfl rfl
theorem kw1399 : Cond.methodLink RX9 200 yX9_isPerson ∈ gt := gw6 90 rfl rfl
theorem kw1401 : Cond.instanceMethod yX9_isPerson ∈ gt := gw6 92 rfl rfl
theorem kw1402 : Cond.code yX9_isPerson cX9_isPerson 2 (some .boolean) ∈ gt := gw6 93 rfl rfl
theorem kw1407 : Cond.constantLong RX9 204 (15) ∈ gt := gw6 98 rfl rfl
theorem kw1408 : Cond.methodLink RX9 206 yX9_runsOf ∈ gt := gw6 99 rfl rfl
theorem kw1410 : Cond.instanceMethod yX9_runsOf ∈ gt := gw6 101 rfl rfl
theorem kw1411 : Cond.code yX9_runsOf cX9_runsOf 3 (some .int) ∈ gt := gw6 102 rfl rfl
theorem kw1412 : Cond.methodLink RX9 423 yX9_tells ∈ gt := gw6 103 rfl rfl
theorem kw1414 : Cond.instanceMethod yX9_tells ∈ gt := gw6 105 rfl rfl
theorem kw1415 : Cond.code yX9_tells cX9_tells 11 (some .long) ∈ gt := gw6 106 rfl rfl
theorem kw1416 : Cond.methodLink RX9 420 yX9_isSo ∈ gt := gw6 107 rfl rfl
theorem kw1418 : Cond.instanceMethod yX9_isSo ∈ gt := gw6 109 rfl rfl
theorem kw1419 : Cond.code yX9_isSo cX9_isSo 2 (some .boolean) ∈ gt := gw6 110 rfl rfl
theorem kw1420 : Cond.methodLink RX9 414 yX9_reckonAll ∈ gt := gw6 111 rfl rfl
theorem kw1422 : Cond.instanceMethod yX9_reckonAll ∈ gt := gw6 113 rfl rfl
theorem kw1423 : Cond.code yX9_reckonAll cX9_reckonAll 7 none ∈ gt := gw6 114 rfl rfl
theorem kw1424 : Cond.constantLong RX9 273 (-1) ∈ gt := gw6 115 rfl rfl
theorem kw1425 : Cond.methodLink RX9 403 yX9_reckon ∈ gt := gw6 116 rfl rfl
theorem kw1427 : Cond.instanceMethod yX9_reckon ∈ gt := gw6 118 rfl rfl
theorem kw1428 : Cond.code yX9_reckon cX9_reckon 6 (some .long) ∈ gt := gw6 119 rfl rfl
theorem kw1429 : Cond.constantLong RX9 407 (-1000000000) ∈ gt := gw6 120 rfl rfl
theorem kw1430 : Cond.constantLong RX9 409 (1000000000) ∈ gt := gw6 121 rfl rfl
theorem kw1431 : Cond.methodLink RX9 427 yX9_within ∈ gt := gw6 122 rfl rfl
theorem kw1432 : Cond.static yX9_within ∈ gt := gw6 123 rfl rfl
theorem kw1433 : Cond.code yX9_within cX9_within 4 (some .int) ∈ gt := gw6 124 rfl rfl
theorem kw1434 : Cond.methodLink RX9 209 yX9_isBarred ∈ gt := gw6 125 rfl rfl
theorem kw1436 : Cond.instanceMethod yX9_isBarred ∈ gt := gw6 127 rfl rfl
theorem kw1437 : Cond.code yX9_isBarred cX9_isBarred 3 (some .boolean) ∈ gt := gw6 128 rfl rfl
theorem kw1442 : Cond.methodLink RX9 213 yX9_isRace ∈ gt := gw6 133 rfl rfl
theorem kw1443 : Cond.static yX9_isRace ∈ gt := gw6 134 rfl rfl
theorem kw1444 : Cond.code yX9_isRace cX9_isRace 1 (some .boolean) ∈ gt := gw6 135 rfl rfl
theorem kw1445 : Cond.constantLong RX9 192 (3) ∈ gt := gw6 136 rfl rfl
theorem kw1446 : Cond.methodLink RX9 216 yX9_change ∈ gt := gw6 137 rfl rfl
theorem kw1448 : Cond.instanceMethod yX9_change ∈ gt := gw6 139 rfl rfl
theorem kw1449 : Cond.code yX9_change cX9_change 4 (some .int) ∈ gt := gw6 140 rfl rfl
theorem kw1458 : Cond.constantLong RX9 219 (7) ∈ gt := gw6 149 rfl rfl
theorem kw1459 : Cond.methodLink RX9 221 yX9_layPlaces ∈ gt := gw6 150 rfl rfl
theorem kw1461 : Cond.instanceMethod yX9_layPlaces ∈ gt := gw6 152 rfl rfl
theorem kw1462 : Cond.code yX9_layPlaces cX9_layPlaces 4 none ∈ gt := gw6 153 rfl rfl
theorem kw1467 : Cond.constantLong RX9 227 (999) ∈ gt := gw6 158 rfl rfl
theorem kw1468 : Cond.constantLong RX9 229 (10) ∈ gt := gw6 159 rfl rfl
theorem kw1473 : Cond.methodLink RX9 237 yX9_isTold ∈ gt := gw6 164 rfl rfl
theorem kw1475 : Cond.instanceMethod yX9_isTold ∈ gt := gw6 166 rfl rfl
theorem kw1476 : Cond.code yX9_isTold cX9_isTold 4 (some .boolean) ∈ gt := gw6 167 rfl rfl
theorem kw1485 : Cond.methodLink RX9 240 yX9_four ∈ gt := gw6 176 rfl rfl
theorem kw1487 : Cond.instanceMethod yX9_four ∈ gt := gw6 178 rfl rfl
theorem kw1488 : Cond.code yX9_four cX9_four 3 none ∈ gt := gw6 179 rfl rfl
theorem kw1501 : Cond.methodLink RX9 385 yX9_beginText ∈ gt := gw6 192 rfl rfl
theorem kw1503 : Cond.instanceMethod yX9_beginText ∈ gt := gw6 194 rfl rfl
theorem kw1504 : Cond.code yX9_beginText cX9_beginText 2 none ∈ gt := gw6 195 rfl rfl
theorem kw1505 : Cond.methodLink RX9 374 yX9_begin ∈ gt := gw6 196 rfl rfl
theorem kw1507 : Cond.instanceMethod yX9_begin ∈ gt := gw6 198 rfl rfl
theorem kw1508 : Cond.code yX9_begin cX9_begin 1 none ∈ gt := gw6 199 rfl rfl
theorem kw1509 : Cond.methodLink RX9 250 yX9_next ∈ gt := gw6 200 rfl rfl
theorem kw1511 : Cond.instanceMethod yX9_next ∈ gt := gw6 202 rfl rfl
theorem kw1512 : Cond.code yX9_next cX9_next 1 none ∈ gt := gw6 203 rfl rfl
theorem kw1513 : Cond.methodLink RX9 260 yX9_isSmall ∈ gt := gw6 204 rfl rfl
theorem kw1514 : Cond.static yX9_isSmall ∈ gt := gw6 205 rfl rfl
theorem kw1515 : Cond.code yX9_isSmall cX9_isSmall 1 (some .boolean) ∈ gt := gw6 206 rfl rfl
theorem kw1516 : Cond.methodLink RX9 263 yX9_isDigit ∈ gt := gw6 207 rfl rfl
theorem kw1517 : Cond.static yX9_isDigit ∈ gt := gw6 208 rfl rfl
theorem kw1518 : Cond.code yX9_isDigit cX9_isDigit 1 (some .boolean) ∈ gt := gw6 209 rfl rfl
theorem kw1519 : Cond.constantLong RX9 269 (32) ∈ gt := gw6 210 rfl rfl
theorem kw1520 : Cond.constantLong RX9 271 (96) ∈ gt := gw6 211 rfl rfl
theorem kw1521 : Cond.constantLong RX9 275 (1000000) ∈ gt := gw6 212 rfl rfl
theorem kw1522 : Cond.constantLong RX9 277 (48) ∈ gt := gw6 213 rfl rfl
theorem kw1523 : Cond.methodLink RX9 388 yX9_readLaw ∈ gt := gw6 214 rfl rfl
theorem kw1525 : Cond.instanceMethod yX9_readLaw ∈ gt := gw6 216 rfl rfl
theorem kw1526 : Cond.code yX9_readLaw cX9_readLaw 4 none ∈ gt := gw6 217 rfl rfl
theorem kw1527 : Cond.methodLink RX9 304 yX9_isWord ∈ gt := gw6 218 rfl rfl
theorem kw1529 : Cond.instanceMethod yX9_isWord ∈ gt := gw6 220 rfl rfl
theorem kw1530 : Cond.code yX9_isWord cX9_isWord 3 (some .boolean) ∈ gt := gw6 221 rfl rfl
theorem kw1531 : Cond.methodLink RX9 279 yX9_must ∈ gt := gw6 222 rfl rfl
theorem kw1533 : Cond.instanceMethod yX9_must ∈ gt := gw6 224 rfl rfl
theorem kw1534 : Cond.code yX9_must cX9_must 2 none ∈ gt := gw6 225 rfl rfl
theorem kw1535 : Cond.methodLink RX9 380 yX9_readExpression ∈ gt := gw6 226 rfl rfl
theorem kw1537 : Cond.instanceMethod yX9_readExpression ∈ gt := gw6 228 rfl rfl
theorem kw1538 : Cond.code yX9_readExpression cX9_readExpression 3 none ∈ gt := gw6 229 rfl rfl
theorem kw1539 : Cond.methodLink RX9 364 yX9_readPlain ∈ gt := gw6 230 rfl rfl
theorem kw1541 : Cond.instanceMethod yX9_readPlain ∈ gt := gw6 232 rfl rfl
theorem kw1542 : Cond.code yX9_readPlain cX9_readPlain 1 (some .int) ∈ gt := gw6 233 rfl rfl
theorem kw1543 : Cond.constantLong RX9 345 (14836) ∈ gt := gw6 234 rfl rfl
theorem kw1544 : Cond.methodLink RX9 311 yX9_push ∈ gt := gw6 235 rfl rfl
theorem kw1546 : Cond.instanceMethod yX9_push ∈ gt := gw6 237 rfl rfl
theorem kw1547 : Cond.code yX9_push cX9_push 3 none ∈ gt := gw6 238 rfl rfl
theorem kw1548 : Cond.methodLink RX9 317 yX9_isSign ∈ gt := gw6 239 rfl rfl
theorem kw1550 : Cond.instanceMethod yX9_isSign ∈ gt := gw7 1 rfl rfl
theorem kw1551 : Cond.code yX9_isSign cX9_isSign 2 (some .boolean) ∈ gt := gw7 2 rfl rfl
theorem kw1552 : Cond.methodLink RX9 320 yX9_openBracket ∈ gt := gw7 3 rfl rfl
theorem kw1554 : Cond.instanceMethod yX9_openBracket ∈ gt := gw7 5 rfl rfl
theorem kw1555 : Cond.code yX9_openBracket cX9_openBracket 2 none ∈ gt := gw7 6 rfl rfl
theorem kw1556 : Cond.methodLink RX9 347 yX9_readPart ∈ gt := gw7 7 rfl rfl
theorem kw1558 : Cond.instanceMethod yX9_readPart ∈ gt := gw7 9 rfl rfl
theorem kw1559 : Cond.code yX9_readPart cX9_readPart 4 (some .int) ∈ gt := gw7 10 rfl rfl
theorem kw1560 : Cond.methodLink RX9 326 yX9_orderPartAt ∈ gt := gw7 11 rfl rfl
theorem kw1562 : Cond.instanceMethod yX9_orderPartAt ∈ gt := gw7 13 rfl rfl
theorem kw1563 : Cond.code yX9_orderPartAt cX9_orderPartAt 3 (some .int) ∈ gt := gw7 14 rfl rfl
theorem kw1564 : Cond.methodLink RX9 330 yX9_partAt ∈ gt := gw7 15 rfl rfl
theorem kw1566 : Cond.instanceMethod yX9_partAt ∈ gt := gw7 17 rfl rfl
theorem kw1567 : Cond.code yX9_partAt cX9_partAt 3 (some .int) ∈ gt := gw7 18 rfl rfl
theorem kw1568 : Cond.constantLong RX9 333 (1000) ∈ gt := gw7 19 rfl rfl
theorem kw1569 : Cond.methodLink RX9 335 yX9_leaf ∈ gt := gw7 20 rfl rfl
theorem kw1571 : Cond.instanceMethod yX9_leaf ∈ gt := gw7 22 rfl rfl
theorem kw1572 : Cond.code yX9_leaf cX9_leaf 4 none ∈ gt := gw7 23 rfl rfl
theorem kw1573 : Cond.methodLink RX9 292 yX9_emit ∈ gt := gw7 24 rfl rfl
theorem kw1575 : Cond.instanceMethod yX9_emit ∈ gt := gw7 26 rfl rfl
theorem kw1576 : Cond.code yX9_emit cX9_emit 3 none ∈ gt := gw7 27 rfl rfl
theorem kw1577 : Cond.constantLong RX9 339 (6) ∈ gt := gw7 28 rfl rfl
theorem kw1578 : Cond.methodLink RX9 341 yX9_number ∈ gt := gw7 29 rfl rfl
theorem kw1580 : Cond.instanceMethod yX9_number ∈ gt := gw7 31 rfl rfl
theorem kw1581 : Cond.code yX9_number cX9_number 6 (some .int) ∈ gt := gw7 32 rfl rfl
theorem kw1582 : Cond.methodLink RX9 367 yX9_behindSum ∈ gt := gw7 33 rfl rfl
theorem kw1584 : Cond.instanceMethod yX9_behindSum ∈ gt := gw7 35 rfl rfl
theorem kw1585 : Cond.code yX9_behindSum cX9_behindSum 4 (some .int) ∈ gt := gw7 36 rfl rfl
theorem kw1586 : Cond.methodLink RX9 289 yX9_binds ∈ gt := gw7 37 rfl rfl
theorem kw1587 : Cond.static yX9_binds ∈ gt := gw7 38 rfl rfl
theorem kw1588 : Cond.code yX9_binds cX9_binds 1 (some .int) ∈ gt := gw7 39 rfl rfl
theorem kw1589 : Cond.methodLink RX9 350 yX9_settle ∈ gt := gw7 40 rfl rfl
theorem kw1591 : Cond.instanceMethod yX9_settle ∈ gt := gw7 42 rfl rfl
theorem kw1592 : Cond.code yX9_settle cX9_settle 2 none ∈ gt := gw7 43 rfl rfl
theorem kw1593 : Cond.methodLink RX9 353 yX9_inner ∈ gt := gw7 44 rfl rfl
theorem kw1595 : Cond.instanceMethod yX9_inner ∈ gt := gw7 46 rfl rfl
theorem kw1596 : Cond.code yX9_inner cX9_inner 3 (some .int) ∈ gt := gw7 47 rfl rfl
theorem kw1597 : Cond.methodLink RX9 356 yX9_isCompared ∈ gt := gw7 48 rfl rfl
theorem kw1599 : Cond.instanceMethod yX9_isCompared ∈ gt := gw7 50 rfl rfl
theorem kw1600 : Cond.code yX9_isCompared cX9_isCompared 2 (some .boolean) ∈ gt := gw7 51 rfl rfl
theorem kw1601 : Cond.constantLong RX9 296 (20) ∈ gt := gw7 52 rfl rfl
theorem kw1602 : Cond.constantLong RX9 298 (24) ∈ gt := gw7 53 rfl rfl
theorem kw1603 : Cond.constantLong RX9 300 (25) ∈ gt := gw7 54 rfl rfl
theorem kw1604 : Cond.constantLong RX9 302 (27) ∈ gt := gw7 55 rfl rfl
theorem kw1605 : Cond.methodLink RX9 371 yX9_behindTest ∈ gt := gw7 56 rfl rfl
theorem kw1607 : Cond.instanceMethod yX9_behindTest ∈ gt := gw7 58 rfl rfl
theorem kw1608 : Cond.code yX9_behindTest cX9_behindTest 2 (some .int) ∈ gt := gw7 59 rfl rfl
theorem kw1609 : Cond.constantLong RX9 360 (1476) ∈ gt := gw7 60 rfl rfl
theorem kw1610 : Cond.constantLong RX9 362 (498) ∈ gt := gw7 61 rfl rfl
theorem kw1611 : Cond.constantLong RX9 383 (294) ∈ gt := gw7 62 rfl rfl
theorem kw1612 : Cond.methodLink RX9 391 yX9_endText ∈ gt := gw7 63 rfl rfl
theorem kw1614 : Cond.instanceMethod yX9_endText ∈ gt := gw7 65 rfl rfl
theorem kw1615 : Cond.code yX9_endText cX9_endText 1 none ∈ gt := gw7 66 rfl rfl
theorem kw1620 : Cond.methodLink RX9 394 yX9_isLaw ∈ gt := gw7 71 rfl rfl
theorem kw1622 : Cond.instanceMethod yX9_isLaw ∈ gt := gw7 73 rfl rfl
theorem kw1623 : Cond.code yX9_isLaw cX9_isLaw 2 (some .boolean) ∈ gt := gw7 74 rfl rfl
theorem kw1628 : Cond.methodLink RX9 446 yX9_raceNow ∈ gt := gw7 79 rfl rfl
theorem kw1630 : Cond.instanceMethod yX9_raceNow ∈ gt := gw7 81 rfl rfl
theorem kw1631 : Cond.code yX9_raceNow cX9_raceNow 2 (some .int) ∈ gt := gw7 82 rfl rfl
theorem kw1632 : Cond.methodLink RX9 440 yX9_remember ∈ gt := gw7 83 rfl rfl
theorem kw1634 : Cond.instanceMethod yX9_remember ∈ gt := gw7 85 rfl rfl
theorem kw1635 : Cond.code yX9_remember cX9_remember 3 none ∈ gt := gw7 86 rfl rfl
theorem kw1636 : Cond.methodLink RX9 178 yX9_keepAll ∈ gt := gw7 87 rfl rfl
theorem kw1638 : Cond.instanceMethod yX9_keepAll ∈ gt := gw7 89 rfl rfl
theorem kw1639 : Cond.code yX9_keepAll cX9_keepAll 3 none ∈ gt := gw7 90 rfl rfl
theorem kw1640 : Cond.methodLink RX9 443 yX9_raceIt ∈ gt := gw7 91 rfl rfl
theorem kw1642 : Cond.instanceMethod yX9_raceIt ∈ gt := gw7 93 rfl rfl
theorem kw1643 : Cond.code yX9_raceIt cX9_raceIt 8 (some .int) ∈ gt := gw7 94 rfl rfl
theorem kw1644 : Cond.methodLink RX9 433 yX9_winsOf ∈ gt := gw7 95 rfl rfl
theorem kw1646 : Cond.instanceMethod yX9_winsOf ∈ gt := gw7 97 rfl rfl
theorem kw1647 : Cond.code yX9_winsOf cX9_winsOf 4 (some .int) ∈ gt := gw7 98 rfl rfl
theorem kw1648 : Cond.constantLong RX9 431 (4) ∈ gt := gw7 99 rfl rfl
theorem kw1649 : Cond.methodLink RX9 437 yX9_turnsOf ∈ gt := gw7 100 rfl rfl
theorem kw1651 : Cond.instanceMethod yX9_turnsOf ∈ gt := gw7 102 rfl rfl
theorem kw1652 : Cond.code yX9_turnsOf cX9_turnsOf 3 (some .int) ∈ gt := gw7 103 rfl rfl
theorem kw1657 : Cond.methodLink RX9 449 yX9_enterNow ∈ gt := gw7 108 rfl rfl
theorem kw1659 : Cond.instanceMethod yX9_enterNow ∈ gt := gw7 110 rfl rfl
theorem kw1660 : Cond.code yX9_enterNow cX9_enterNow 2 (some .int) ∈ gt := gw7 111 rfl rfl
theorem kw1665 : Cond.methodLink RX9 455 yX9_takeNow ∈ gt := gw7 116 rfl rfl
theorem kw1667 : Cond.instanceMethod yX9_takeNow ∈ gt := gw7 118 rfl rfl
theorem kw1668 : Cond.code yX9_takeNow cX9_takeNow 3 (some .int) ∈ gt := gw7 119 rfl rfl
theorem kw1669 : Cond.methodLink RX9 452 yX9_takeIt ∈ gt := gw7 120 rfl rfl
theorem kw1671 : Cond.instanceMethod yX9_takeIt ∈ gt := gw7 122 rfl rfl
theorem kw1672 : Cond.code yX9_takeIt cX9_takeIt 2 none ∈ gt := gw7 123 rfl rfl
theorem kw1677 : Cond.methodLink RX9 464 yX9_passNow ∈ gt := gw7 128 rfl rfl
theorem kw1679 : Cond.instanceMethod yX9_passNow ∈ gt := gw7 130 rfl rfl
theorem kw1680 : Cond.code yX9_passNow cX9_passNow 1 (some .int) ∈ gt := gw7 131 rfl rfl
theorem kw1681 : Cond.methodLink RX9 461 yX9_passIt ∈ gt := gw7 132 rfl rfl
theorem kw1683 : Cond.instanceMethod yX9_passIt ∈ gt := gw7 134 rfl rfl
theorem kw1684 : Cond.code yX9_passIt cX9_passIt 3 (some .int) ∈ gt := gw7 135 rfl rfl
theorem kw1685 : Cond.methodLink RX9 458 yX9_hasLike ∈ gt := gw7 136 rfl rfl
theorem kw1687 : Cond.instanceMethod yX9_hasLike ∈ gt := gw7 138 rfl rfl
theorem kw1688 : Cond.code yX9_hasLike cX9_hasLike 4 (some .boolean) ∈ gt := gw7 139 rfl rfl
theorem kw1693 : Cond.methodLink RX9 470 yX9_layRuns ∈ gt := gw7 144 rfl rfl
theorem kw1695 : Cond.instanceMethod yX9_layRuns ∈ gt := gw7 146 rfl rfl
theorem kw1696 : Cond.code yX9_layRuns cX9_layRuns 3 none ∈ gt := gw7 147 rfl rfl
theorem kw1697 : Cond.methodLink RX9 473 yX9_enteredBits ∈ gt := gw7 148 rfl rfl
theorem kw1699 : Cond.instanceMethod yX9_enteredBits ∈ gt := gw7 150 rfl rfl
theorem kw1700 : Cond.code yX9_enteredBits cX9_enteredBits 3 (some .int) ∈ gt := gw7 151 rfl rfl
theorem kw1701 : Cond.constant RX9 476 (100000000) ∈ gt := gw7 152 rfl rfl
theorem kw1702 : Cond.methodLink RX9 467 yX9_is ∈ gt := gw7 153 rfl rfl
theorem kw1703 : Cond.static yX9_is ∈ gt := gw7 154 rfl rfl
theorem kw1704 : Cond.code yX9_is cX9_is 2 (some .boolean) ∈ gt := gw7 155 rfl rfl
theorem kw1705 : Cond.methodLink RX9 477 yX9_ones ∈ gt := gw7 156 rfl rfl
theorem kw1706 : Cond.static yX9_ones ∈ gt := gw7 157 rfl rfl
theorem kw1707 : Cond.code yX9_ones cX9_ones 3 (some .int) ∈ gt := gw7 158 rfl rfl
theorem kw1708 : Cond.methodLink RX9 480 yX9_placeOf ∈ gt := gw7 159 rfl rfl
theorem kw1710 : Cond.instanceMethod yX9_placeOf ∈ gt := gw7 161 rfl rfl
theorem kw1711 : Cond.code yX9_placeOf cX9_placeOf 5 (some .int) ∈ gt := gw7 162 rfl rfl
theorem kw1724 : Cond.methodLink RX9 483 yX9_thatCanBe ∈ gt := gw7 175 rfl rfl
theorem kw1726 : Cond.instanceMethod yX9_thatCanBe ∈ gt := gw7 177 rfl rfl
theorem kw1727 : Cond.code yX9_thatCanBe cX9_thatCanBe 5 (some .int) ∈ gt := gw7 178 rfl rfl
theorem kw1736 : Cond.methodLink RX9 489 yX9_layLeft ∈ gt := gw7 187 rfl rfl
theorem kw1738 : Cond.instanceMethod yX9_layLeft ∈ gt := gw7 189 rfl rfl
theorem kw1739 : Cond.code yX9_layLeft cX9_layLeft 5 none ∈ gt := gw7 190 rfl rfl
theorem kw1740 : Cond.methodLink RX9 486 yX9_leftBy ∈ gt := gw7 191 rfl rfl
theorem kw1742 : Cond.instanceMethod yX9_leftBy ∈ gt := gw7 193 rfl rfl
theorem kw1743 : Cond.code yX9_leftBy cX9_leftBy 3 (some .int) ∈ gt := gw7 194 rfl rfl
theorem kw1752 : Cond.methodLink RX9 498 yX9_findCrowned ∈ gt := gw7 203 rfl rfl
theorem kw1754 : Cond.instanceMethod yX9_findCrowned ∈ gt := gw7 205 rfl rfl
theorem kw1755 : Cond.code yX9_findCrowned cX9_findCrowned 5 (some .int) ∈ gt := gw7 206 rfl rfl
theorem kw1756 : Cond.methodLink RX9 492 yX9_scoreNow ∈ gt := gw7 207 rfl rfl
theorem kw1758 : Cond.instanceMethod yX9_scoreNow ∈ gt := gw7 209 rfl rfl
theorem kw1759 : Cond.code yX9_scoreNow cX9_scoreNow 3 (some .int) ∈ gt := gw7 210 rfl rfl
theorem kw1760 : Cond.methodLink RX9 495 yX9_isFree ∈ gt := gw7 211 rfl rfl
theorem kw1762 : Cond.instanceMethod yX9_isFree ∈ gt := gw7 213 rfl rfl
theorem kw1763 : Cond.code yX9_isFree cX9_isFree 4 (some .boolean) ∈ gt := gw7 214 rfl rfl
theorem kw1768 : Cond.methodLink RX9 504 yX9_layLine ∈ gt := gw7 219 rfl rfl
theorem kw1770 : Cond.instanceMethod yX9_layLine ∈ gt := gw7 221 rfl rfl
theorem kw1771 : Cond.code yX9_layLine cX9_layLine 5 (some .int) ∈ gt := gw7 222 rfl rfl
theorem kw1772 : Cond.methodLink RX9 501 yX9_elder ∈ gt := gw7 223 rfl rfl
theorem kw1774 : Cond.instanceMethod yX9_elder ∈ gt := gw7 225 rfl rfl
theorem kw1775 : Cond.code yX9_elder cX9_elder 4 (some .int) ∈ gt := gw7 226 rfl rfl
theorem kw1780 : Cond.constantLong RX9 507 (60) ∈ gt := gw7 231 rfl rfl
theorem kw1781 : Cond.constantLong RX9 509 (5) ∈ gt := gw7 232 rfl rfl
theorem kw1790 : Cond.constantLong RX9 511 (99) ∈ gt := gw8 1 rfl rfl
theorem kw1791 : Cond.constantLong RX9 513 (1000000000000) ∈ gt := gw8 2 rfl rfl
theorem kw1800 : Cond.methodLink RX9 538 yX9_readOrder ∈ gt := gw8 11 rfl rfl
theorem kw1802 : Cond.instanceMethod yX9_readOrder ∈ gt := gw8 13 rfl rfl
theorem kw1803 : Cond.code yX9_readOrder cX9_readOrder 4 none ∈ gt := gw8 14 rfl rfl
theorem kw1804 : Cond.methodLink RX9 515 yX9_readSum ∈ gt := gw8 15 rfl rfl
theorem kw1806 : Cond.instanceMethod yX9_readSum ∈ gt := gw8 17 rfl rfl
theorem kw1807 : Cond.code yX9_readSum cX9_readSum 2 none ∈ gt := gw8 18 rfl rfl
theorem kw1808 : Cond.constantLong RX9 518 (21279923) ∈ gt := gw8 19 rfl rfl
theorem kw1809 : Cond.methodLink RX9 541 yX9_run ∈ gt := gw8 20 rfl rfl
theorem kw1811 : Cond.instanceMethod yX9_run ∈ gt := gw8 22 rfl rfl
theorem kw1812 : Cond.code yX9_run cX9_run 4 (some .int) ∈ gt := gw8 23 rfl rfl
theorem kw1813 : Cond.methodLink RX9 529 yX9_enteredOnes ∈ gt := gw8 24 rfl rfl
theorem kw1815 : Cond.instanceMethod yX9_enteredOnes ∈ gt := gw8 26 rfl rfl
theorem kw1816 : Cond.code yX9_enteredOnes cX9_enteredOnes 1 (some .int) ∈ gt := gw8 27 rfl rfl
theorem kw1817 : Cond.methodLink RX9 194 yX9_sumOf ∈ gt := gw8 28 rfl rfl
theorem kw1819 : Cond.instanceMethod yX9_sumOf ∈ gt := gw8 30 rfl rfl
theorem kw1820 : Cond.code yX9_sumOf cX9_sumOf 5 (some .int) ∈ gt := gw8 31 rfl rfl
theorem kw1821 : Cond.methodLink RX9 532 yX9_orderSum ∈ gt := gw8 32 rfl rfl
theorem kw1823 : Cond.instanceMethod yX9_orderSum ∈ gt := gw8 34 rfl rfl
theorem kw1824 : Cond.code yX9_orderSum cX9_orderSum 2 (some .int) ∈ gt := gw8 35 rfl rfl
theorem kw1825 : Cond.methodLink RX9 535 yX9_act ∈ gt := gw8 36 rfl rfl
theorem kw1827 : Cond.instanceMethod yX9_act ∈ gt := gw8 38 rfl rfl
theorem kw1828 : Cond.code yX9_act cX9_act 3 (some .int) ∈ gt := gw8 39 rfl rfl
theorem kw1829 : Cond.methodLink RX9 544 yX9_giveBack ∈ gt := gw8 40 rfl rfl
theorem kw1831 : Cond.instanceMethod yX9_giveBack ∈ gt := gw8 42 rfl rfl
theorem kw1832 : Cond.code yX9_giveBack cX9_giveBack 3 none ∈ gt := gw8 43 rfl rfl
theorem kw1841 : Cond.methodLink RX9 556 yX9_draw ∈ gt := gw8 52 rfl rfl
theorem kw1843 : Cond.instanceMethod yX9_draw ∈ gt := gw8 54 rfl rfl
theorem kw1844 : Cond.code yX9_draw cX9_draw 2 (some .int) ∈ gt := gw8 55 rfl rfl
theorem kw1845 : Cond.constantLong RX9 550 (1103) ∈ gt := gw8 56 rfl rfl
theorem kw1846 : Cond.constantLong RX9 552 (12345) ∈ gt := gw8 57 rfl rfl
theorem kw1847 : Cond.constantLong RX9 554 (1000003) ∈ gt := gw8 58 rfl rfl
theorem kw1852 : Cond.constantLong RX9 559 (2) ∈ gt := gw8 63 rfl rfl
theorem kw1857 : Cond.constantLong RX9 561 (14) ∈ gt := gw8 68 rfl rfl
theorem kw1858 : Cond.constantLong RX9 563 (16) ∈ gt := gw8 69 rfl rfl
theorem kw1863 : Cond.fieldLink RJ0 9 "java/lang/String" "value" "[B" ∈ gt := gw8 74 rfl rfl
theorem kw1864 : Cond.fieldLink RJ0 15 "java/lang/String" "coder" "B" ∈ gt := gw8 75 rfl rfl
theorem hc_0 : ("java/lang/String" : String) ≠ "java/lang/invoke/MethodHandle" ∧ ("java/lang/String" : String) ≠ "java/lang/invoke/VarHandle" := by decide +kernel
theorem hp_0 : (parseMethodDescriptor "(I)C").map (fun d => d.parameters.length) = some 1 := by decide +kernel
theorem hd_J0_charAt_5068e : yJ0_charAt_5068e.cls ≠ "java/lang/invoke/MethodHandle" ∧ yJ0_charAt_5068e.cls ≠ "java/lang/invoke/VarHandle" ∧ (parseMethodDescriptor yJ0_charAt_5068e.desc).map (fun d => d.parameters.length) = some 1 := ⟨hc_0.1, hc_0.2, hp_0⟩
theorem hp_1 : (parseMethodDescriptor "(II)V").map (fun d => d.parameters.length) = some 2 := by decide +kernel
theorem hd_J0_checkIndex_df160 : yJ0_checkIndex_df160.cls ≠ "java/lang/invoke/MethodHandle" ∧ yJ0_checkIndex_df160.cls ≠ "java/lang/invoke/VarHandle" ∧ (parseMethodDescriptor yJ0_checkIndex_df160.desc).map (fun d => d.parameters.length) = some 2 := ⟨hc_0.1, hc_0.2, hp_1⟩
theorem hp_2 : (parseMethodDescriptor "()B").map (fun d => d.parameters.length) = some 0 := by decide +kernel
theorem hd_J0_coder_7d493 : yJ0_coder_7d493.cls ≠ "java/lang/invoke/MethodHandle" ∧ yJ0_coder_7d493.cls ≠ "java/lang/invoke/VarHandle" ∧ (parseMethodDescriptor yJ0_coder_7d493.desc).map (fun d => d.parameters.length) = some 0 := ⟨hc_0.1, hc_0.2, hp_2⟩
theorem hp_3 : (parseMethodDescriptor "()Z").map (fun d => d.parameters.length) = some 0 := by decide +kernel
theorem hd_J0_isLatin1_aae02 : yJ0_isLatin1_aae02.cls ≠ "java/lang/invoke/MethodHandle" ∧ yJ0_isLatin1_aae02.cls ≠ "java/lang/invoke/VarHandle" ∧ (parseMethodDescriptor yJ0_isLatin1_aae02.desc).map (fun d => d.parameters.length) = some 0 := ⟨hc_0.1, hc_0.2, hp_3⟩
theorem hp_4 : (parseMethodDescriptor "()I").map (fun d => d.parameters.length) = some 0 := by decide +kernel
theorem hd_J0_length_8abf5 : yJ0_length_8abf5.cls ≠ "java/lang/invoke/MethodHandle" ∧ yJ0_length_8abf5.cls ≠ "java/lang/invoke/VarHandle" ∧ (parseMethodDescriptor yJ0_length_8abf5.desc).map (fun d => d.parameters.length) = some 0 := ⟨hc_0.1, hc_0.2, hp_4⟩
theorem hc_1 : ("java/lang/StringLatin1" : String) ≠ "java/lang/invoke/MethodHandle" ∧ ("java/lang/StringLatin1" : String) ≠ "java/lang/invoke/VarHandle" := by decide +kernel
theorem hp_5 : (parseMethodDescriptor "([BI)C").map (fun d => d.parameters.length) = some 2 := by decide +kernel
theorem hd_J1_charAt_3b067 : yJ1_charAt_3b067.cls ≠ "java/lang/invoke/MethodHandle" ∧ yJ1_charAt_3b067.cls ≠ "java/lang/invoke/VarHandle" ∧ (parseMethodDescriptor yJ1_charAt_3b067.desc).map (fun d => d.parameters.length) = some 2 := ⟨hc_1.1, hc_1.2, hp_5⟩
theorem hc_2 : ("jdk/internal/util/Preconditions" : String) ≠ "java/lang/invoke/MethodHandle" ∧ ("jdk/internal/util/Preconditions" : String) ≠ "java/lang/invoke/VarHandle" := by decide +kernel
theorem hp_6 : (parseMethodDescriptor "(IILjava/util/function/BiFunction;)I").map (fun d => d.parameters.length) = some 3 := by decide +kernel
theorem hd_J3_checkIndex_8e157 : yJ3_checkIndex_8e157.cls ≠ "java/lang/invoke/MethodHandle" ∧ yJ3_checkIndex_8e157.cls ≠ "java/lang/invoke/VarHandle" ∧ (parseMethodDescriptor yJ3_checkIndex_8e157.desc).map (fun d => d.parameters.length) = some 3 := ⟨hc_2.1, hc_2.2, hp_6⟩
theorem hc_3 : ("java/lang/Integer" : String) ≠ "java/lang/invoke/MethodHandle" ∧ ("java/lang/Integer" : String) ≠ "java/lang/invoke/VarHandle" := by decide +kernel
theorem hp_7 : (parseMethodDescriptor "(I)I").map (fun d => d.parameters.length) = some 1 := by decide +kernel
theorem hd_J6_bitCount_0f7a4 : yJ6_bitCount_0f7a4.cls ≠ "java/lang/invoke/MethodHandle" ∧ yJ6_bitCount_0f7a4.cls ≠ "java/lang/invoke/VarHandle" ∧ (parseMethodDescriptor yJ6_bitCount_0f7a4.desc).map (fun d => d.parameters.length) = some 1 := ⟨hc_3.1, hc_3.2, hp_7⟩
theorem hc_4 : ("java/util/Arrays" : String) ≠ "java/lang/invoke/MethodHandle" ∧ ("java/util/Arrays" : String) ≠ "java/lang/invoke/VarHandle" := by decide +kernel
theorem hp_8 : (parseMethodDescriptor "([II)V").map (fun d => d.parameters.length) = some 2 := by decide +kernel
theorem hd_J7_fill_53178 : yJ7_fill_53178.cls ≠ "java/lang/invoke/MethodHandle" ∧ yJ7_fill_53178.cls ≠ "java/lang/invoke/VarHandle" ∧ (parseMethodDescriptor yJ7_fill_53178.desc).map (fun d => d.parameters.length) = some 2 := ⟨hc_4.1, hc_4.2, hp_8⟩
theorem hp_9 : (parseMethodDescriptor "([JJ)V").map (fun d => d.parameters.length) = some 2 := by decide +kernel
theorem hd_J7_fill_d0a16 : yJ7_fill_d0a16.cls ≠ "java/lang/invoke/MethodHandle" ∧ yJ7_fill_d0a16.cls ≠ "java/lang/invoke/VarHandle" ∧ (parseMethodDescriptor yJ7_fill_d0a16.desc).map (fun d => d.parameters.length) = some 2 := ⟨hc_4.1, hc_4.2, hp_9⟩
theorem hc_5 : ("NoSecond$Code" : String) ≠ "java/lang/invoke/MethodHandle" ∧ ("NoSecond$Code" : String) ≠ "java/lang/invoke/VarHandle" := by decide +kernel
theorem hp_10 : (parseMethodDescriptor "(II)I").map (fun d => d.parameters.length) = some 2 := by decide +kernel
theorem hd_X0_add : yX0_add.cls ≠ "java/lang/invoke/MethodHandle" ∧ yX0_add.cls ≠ "java/lang/invoke/VarHandle" ∧ (parseMethodDescriptor yX0_add.desc).map (fun d => d.parameters.length) = some 2 := ⟨hc_5.1, hc_5.2, hp_10⟩
theorem hp_11 : (parseMethodDescriptor "()V").map (fun d => d.parameters.length) = some 0 := by decide +kernel
theorem hd_X0_clear : yX0_clear.cls ≠ "java/lang/invoke/MethodHandle" ∧ yX0_clear.cls ≠ "java/lang/invoke/VarHandle" ∧ (parseMethodDescriptor yX0_clear.desc).map (fun d => d.parameters.length) = some 0 := ⟨hc_5.1, hc_5.2, hp_11⟩
theorem hp_12 : (parseMethodDescriptor "(I)V").map (fun d => d.parameters.length) = some 1 := by decide +kernel
theorem hd_X0_land : yX0_land.cls ≠ "java/lang/invoke/MethodHandle" ∧ yX0_land.cls ≠ "java/lang/invoke/VarHandle" ∧ (parseMethodDescriptor yX0_land.desc).map (fun d => d.parameters.length) = some 1 := ⟨hc_5.1, hc_5.2, hp_12⟩
theorem hc_6 : ("NoSecond$Court" : String) ≠ "java/lang/invoke/MethodHandle" ∧ ("NoSecond$Court" : String) ≠ "java/lang/invoke/VarHandle" := by decide +kernel
theorem hd_X1_at : yX1_at.cls ≠ "java/lang/invoke/MethodHandle" ∧ yX1_at.cls ≠ "java/lang/invoke/VarHandle" ∧ (parseMethodDescriptor yX1_at.desc).map (fun d => d.parameters.length) = some 1 := ⟨hc_6.1, hc_6.2, hp_7⟩
theorem hd_X1_changedEntry : yX1_changedEntry.cls ≠ "java/lang/invoke/MethodHandle" ∧ yX1_changedEntry.cls ≠ "java/lang/invoke/VarHandle" ∧ (parseMethodDescriptor yX1_changedEntry.desc).map (fun d => d.parameters.length) = some 1 := ⟨hc_6.1, hc_6.2, hp_7⟩
theorem hp_13 : (parseMethodDescriptor "(I)Z").map (fun d => d.parameters.length) = some 1 := by decide +kernel
theorem hd_X1_hasTradeOfLower : yX1_hasTradeOfLower.cls ≠ "java/lang/invoke/MethodHandle" ∧ yX1_hasTradeOfLower.cls ≠ "java/lang/invoke/VarHandle" ∧ (parseMethodDescriptor yX1_hasTradeOfLower.desc).map (fun d => d.parameters.length) = some 1 := ⟨hc_6.1, hc_6.2, hp_13⟩
theorem hd_X1_heldRace : yX1_heldRace.cls ≠ "java/lang/invoke/MethodHandle" ∧ yX1_heldRace.cls ≠ "java/lang/invoke/VarHandle" ∧ (parseMethodDescriptor yX1_heldRace.desc).map (fun d => d.parameters.length) = some 1 := ⟨hc_6.1, hc_6.2, hp_7⟩
theorem hp_14 : (parseMethodDescriptor "(LNoSecond$Code;II)Z").map (fun d => d.parameters.length) = some 3 := by decide +kernel
theorem hd_X1_isBarred : yX1_isBarred.cls ≠ "java/lang/invoke/MethodHandle" ∧ yX1_isBarred.cls ≠ "java/lang/invoke/VarHandle" ∧ (parseMethodDescriptor yX1_isBarred.desc).map (fun d => d.parameters.length) = some 3 := ⟨hc_6.1, hc_6.2, hp_14⟩
theorem hp_15 : (parseMethodDescriptor "(LNoSecond$Code;I)I").map (fun d => d.parameters.length) = some 2 := by decide +kernel
theorem hd_X1_lineUp : yX1_lineUp.cls ≠ "java/lang/invoke/MethodHandle" ∧ yX1_lineUp.cls ≠ "java/lang/invoke/VarHandle" ∧ (parseMethodDescriptor yX1_lineUp.desc).map (fun d => d.parameters.length) = some 2 := ⟨hc_6.1, hc_6.2, hp_15⟩
theorem hp_16 : (parseMethodDescriptor "(IILNoSecond$Past;)I").map (fun d => d.parameters.length) = some 3 := by decide +kernel
theorem hd_X1_moved : yX1_moved.cls ≠ "java/lang/invoke/MethodHandle" ∧ yX1_moved.cls ≠ "java/lang/invoke/VarHandle" ∧ (parseMethodDescriptor yX1_moved.desc).map (fun d => d.parameters.length) = some 3 := ⟨hc_6.1, hc_6.2, hp_16⟩
theorem hp_17 : (parseMethodDescriptor "(JI)I").map (fun d => d.parameters.length) = some 2 := by decide +kernel
theorem hd_X1_nearest : yX1_nearest.cls ≠ "java/lang/invoke/MethodHandle" ∧ yX1_nearest.cls ≠ "java/lang/invoke/VarHandle" ∧ (parseMethodDescriptor yX1_nearest.desc).map (fun d => d.parameters.length) = some 2 := ⟨hc_6.1, hc_6.2, hp_17⟩
theorem hd_X1_passedYear : yX1_passedYear.cls ≠ "java/lang/invoke/MethodHandle" ∧ yX1_passedYear.cls ≠ "java/lang/invoke/VarHandle" ∧ (parseMethodDescriptor yX1_passedYear.desc).map (fun d => d.parameters.length) = some 0 := ⟨hc_6.1, hc_6.2, hp_4⟩
theorem hp_18 : (parseMethodDescriptor "(LNoSecond$Code;II)I").map (fun d => d.parameters.length) = some 3 := by decide +kernel
theorem hd_X1_runsBy : yX1_runsBy.cls ≠ "java/lang/invoke/MethodHandle" ∧ yX1_runsBy.cls ≠ "java/lang/invoke/VarHandle" ∧ (parseMethodDescriptor yX1_runsBy.desc).map (fun d => d.parameters.length) = some 3 := ⟨hc_6.1, hc_6.2, hp_18⟩
theorem hd_X1_takenGap : yX1_takenGap.cls ≠ "java/lang/invoke/MethodHandle" ∧ yX1_takenGap.cls ≠ "java/lang/invoke/VarHandle" ∧ (parseMethodDescriptor yX1_takenGap.desc).map (fun d => d.parameters.length) = some 1 := ⟨hc_6.1, hc_6.2, hp_7⟩
theorem hp_19 : (parseMethodDescriptor "(LNoSecond$Code;IIII)J").map (fun d => d.parameters.length) = some 5 := by decide +kernel
theorem hd_X1_told : yX1_told.cls ≠ "java/lang/invoke/MethodHandle" ∧ yX1_told.cls ≠ "java/lang/invoke/VarHandle" ∧ (parseMethodDescriptor yX1_told.desc).map (fun d => d.parameters.length) = some 5 := ⟨hc_6.1, hc_6.2, hp_19⟩
theorem hd_X1_turnsTo : yX1_turnsTo.cls ≠ "java/lang/invoke/MethodHandle" ∧ yX1_turnsTo.cls ≠ "java/lang/invoke/VarHandle" ∧ (parseMethodDescriptor yX1_turnsTo.desc).map (fun d => d.parameters.length) = some 3 := ⟨hc_6.1, hc_6.2, hp_18⟩
theorem hp_20 : (parseMethodDescriptor "(LNoSecond$Code;III)I").map (fun d => d.parameters.length) = some 4 := by decide +kernel
theorem hd_X1_wins : yX1_wins.cls ≠ "java/lang/invoke/MethodHandle" ∧ yX1_wins.cls ≠ "java/lang/invoke/VarHandle" ∧ (parseMethodDescriptor yX1_wins.desc).map (fun d => d.parameters.length) = some 4 := ⟨hc_6.1, hc_6.2, hp_20⟩
theorem hc_7 : ("NoSecond$Isles" : String) ≠ "java/lang/invoke/MethodHandle" ∧ ("NoSecond$Isles" : String) ≠ "java/lang/invoke/VarHandle" := by decide +kernel
theorem hd_X2_addPerson : yX2_addPerson.cls ≠ "java/lang/invoke/MethodHandle" ∧ yX2_addPerson.cls ≠ "java/lang/invoke/VarHandle" ∧ (parseMethodDescriptor yX2_addPerson.desc).map (fun d => d.parameters.length) = some 2 := ⟨hc_7.1, hc_7.2, hp_10⟩
theorem hd_X2_addSeen : yX2_addSeen.cls ≠ "java/lang/invoke/MethodHandle" ∧ yX2_addSeen.cls ≠ "java/lang/invoke/VarHandle" ∧ (parseMethodDescriptor yX2_addSeen.desc).map (fun d => d.parameters.length) = some 2 := ⟨hc_7.1, hc_7.2, hp_10⟩
theorem hd_X2_allPrizes : yX2_allPrizes.cls ≠ "java/lang/invoke/MethodHandle" ∧ yX2_allPrizes.cls ≠ "java/lang/invoke/VarHandle" ∧ (parseMethodDescriptor yX2_allPrizes.desc).map (fun d => d.parameters.length) = some 0 := ⟨hc_7.1, hc_7.2, hp_4⟩
theorem hd_X2_isLaw : yX2_isLaw.cls ≠ "java/lang/invoke/MethodHandle" ∧ yX2_isLaw.cls ≠ "java/lang/invoke/VarHandle" ∧ (parseMethodDescriptor yX2_isLaw.desc).map (fun d => d.parameters.length) = some 1 := ⟨hc_7.1, hc_7.2, hp_13⟩
theorem hd_X2_isPerson : yX2_isPerson.cls ≠ "java/lang/invoke/MethodHandle" ∧ yX2_isPerson.cls ≠ "java/lang/invoke/VarHandle" ∧ (parseMethodDescriptor yX2_isPerson.desc).map (fun d => d.parameters.length) = some 1 := ⟨hc_7.1, hc_7.2, hp_13⟩
theorem hp_21 : (parseMethodDescriptor "(I)LNoSecond$Code;").map (fun d => d.parameters.length) = some 1 := by decide +kernel
theorem hd_X2_lawAt : yX2_lawAt.cls ≠ "java/lang/invoke/MethodHandle" ∧ yX2_lawAt.cls ≠ "java/lang/invoke/VarHandle" ∧ (parseMethodDescriptor yX2_lawAt.desc).map (fun d => d.parameters.length) = some 1 := ⟨hc_7.1, hc_7.2, hp_21⟩
theorem hp_22 : (parseMethodDescriptor "()LNoSecond$Code;").map (fun d => d.parameters.length) = some 0 := by decide +kernel
theorem hd_X2_lawInForce : yX2_lawInForce.cls ≠ "java/lang/invoke/MethodHandle" ∧ yX2_lawInForce.cls ≠ "java/lang/invoke/VarHandle" ∧ (parseMethodDescriptor yX2_lawInForce.desc).map (fun d => d.parameters.length) = some 0 := ⟨hc_7.1, hc_7.2, hp_22⟩
theorem hp_23 : (parseMethodDescriptor "(LNoSecond$Isles;)V").map (fun d => d.parameters.length) = some 1 := by decide +kernel
theorem hd_X2_set : yX2_set.cls ≠ "java/lang/invoke/MethodHandle" ∧ yX2_set.cls ≠ "java/lang/invoke/VarHandle" ∧ (parseMethodDescriptor yX2_set.desc).map (fun d => d.parameters.length) = some 1 := ⟨hc_7.1, hc_7.2, hp_23⟩
theorem hd_X2_setTerm : yX2_setTerm.cls ≠ "java/lang/invoke/MethodHandle" ∧ yX2_setTerm.cls ≠ "java/lang/invoke/VarHandle" ∧ (parseMethodDescriptor yX2_setTerm.desc).map (fun d => d.parameters.length) = some 2 := ⟨hc_7.1, hc_7.2, hp_1⟩
theorem hd_X2_term : yX2_term.cls ≠ "java/lang/invoke/MethodHandle" ∧ yX2_term.cls ≠ "java/lang/invoke/VarHandle" ∧ (parseMethodDescriptor yX2_term.desc).map (fun d => d.parameters.length) = some 1 := ⟨hc_7.1, hc_7.2, hp_7⟩
theorem hc_8 : ("NoSecond$Machine" : String) ≠ "java/lang/invoke/MethodHandle" ∧ ("NoSecond$Machine" : String) ≠ "java/lang/invoke/VarHandle" := by decide +kernel
theorem hp_24 : (parseMethodDescriptor "(IJJ)J").map (fun d => d.parameters.length) = some 3 := by decide +kernel
theorem hd_X3_joined : yX3_joined.cls ≠ "java/lang/invoke/MethodHandle" ∧ yX3_joined.cls ≠ "java/lang/invoke/VarHandle" ∧ (parseMethodDescriptor yX3_joined.desc).map (fun d => d.parameters.length) = some 3 := ⟨hc_8.1, hc_8.2, hp_24⟩
theorem hp_25 : (parseMethodDescriptor "(LNoSecond$Isles;III)V").map (fun d => d.parameters.length) = some 4 := by decide +kernel
theorem hd_X3_setLawWords : yX3_setLawWords.cls ≠ "java/lang/invoke/MethodHandle" ∧ yX3_setLawWords.cls ≠ "java/lang/invoke/VarHandle" ∧ (parseMethodDescriptor yX3_setLawWords.desc).map (fun d => d.parameters.length) = some 4 := ⟨hc_8.1, hc_8.2, hp_25⟩
theorem hp_26 : (parseMethodDescriptor "(LNoSecond$Isles;II)V").map (fun d => d.parameters.length) = some 3 := by decide +kernel
theorem hd_X3_setOrderWords : yX3_setOrderWords.cls ≠ "java/lang/invoke/MethodHandle" ∧ yX3_setOrderWords.cls ≠ "java/lang/invoke/VarHandle" ∧ (parseMethodDescriptor yX3_setOrderWords.desc).map (fun d => d.parameters.length) = some 3 := ⟨hc_8.1, hc_8.2, hp_26⟩
theorem hd_X3_wordOfPerson : yX3_wordOfPerson.cls ≠ "java/lang/invoke/MethodHandle" ∧ yX3_wordOfPerson.cls ≠ "java/lang/invoke/VarHandle" ∧ (parseMethodDescriptor yX3_wordOfPerson.desc).map (fun d => d.parameters.length) = some 2 := ⟨hc_8.1, hc_8.2, hp_10⟩
theorem hp_27 : (parseMethodDescriptor "(I)J").map (fun d => d.parameters.length) = some 1 := by decide +kernel
theorem hd_X3_wordWorth : yX3_wordWorth.cls ≠ "java/lang/invoke/MethodHandle" ∧ yX3_wordWorth.cls ≠ "java/lang/invoke/VarHandle" ∧ (parseMethodDescriptor yX3_wordWorth.desc).map (fun d => d.parameters.length) = some 1 := ⟨hc_8.1, hc_8.2, hp_27⟩
theorem hp_28 : (parseMethodDescriptor "(LNoSecond$Code;II)J").map (fun d => d.parameters.length) = some 3 := by decide +kernel
theorem hd_X3_worth : yX3_worth.cls ≠ "java/lang/invoke/MethodHandle" ∧ yX3_worth.cls ≠ "java/lang/invoke/VarHandle" ∧ (parseMethodDescriptor yX3_worth.desc).map (fun d => d.parameters.length) = some 3 := ⟨hc_8.1, hc_8.2, hp_28⟩
theorem hc_9 : ("NoSecond$Moving" : String) ≠ "java/lang/invoke/MethodHandle" ∧ ("NoSecond$Moving" : String) ≠ "java/lang/invoke/VarHandle" := by decide +kernel
theorem hd_X4_addPrizes : yX4_addPrizes.cls ≠ "java/lang/invoke/MethodHandle" ∧ yX4_addPrizes.cls ≠ "java/lang/invoke/VarHandle" ∧ (parseMethodDescriptor yX4_addPrizes.desc).map (fun d => d.parameters.length) = some 2 := ⟨hc_9.1, hc_9.2, hp_1⟩
theorem hd_X4_isIn : yX4_isIn.cls ≠ "java/lang/invoke/MethodHandle" ∧ yX4_isIn.cls ≠ "java/lang/invoke/VarHandle" ∧ (parseMethodDescriptor yX4_isIn.desc).map (fun d => d.parameters.length) = some 1 := ⟨hc_9.1, hc_9.2, hp_13⟩
theorem hd_X4_readFrom : yX4_readFrom.cls ≠ "java/lang/invoke/MethodHandle" ∧ yX4_readFrom.cls ≠ "java/lang/invoke/VarHandle" ∧ (parseMethodDescriptor yX4_readFrom.desc).map (fun d => d.parameters.length) = some 2 := ⟨hc_9.1, hc_9.2, hp_8⟩
theorem hp_29 : (parseMethodDescriptor "(LNoSecond$Moving;)V").map (fun d => d.parameters.length) = some 1 := by decide +kernel
theorem hd_X4_set : yX4_set.cls ≠ "java/lang/invoke/MethodHandle" ∧ yX4_set.cls ≠ "java/lang/invoke/VarHandle" ∧ (parseMethodDescriptor yX4_set.desc).map (fun d => d.parameters.length) = some 1 := ⟨hc_9.1, hc_9.2, hp_29⟩
theorem hd_X4_told : yX4_told.cls ≠ "java/lang/invoke/MethodHandle" ∧ yX4_told.cls ≠ "java/lang/invoke/VarHandle" ∧ (parseMethodDescriptor yX4_told.desc).map (fun d => d.parameters.length) = some 2 := ⟨hc_9.1, hc_9.2, hp_10⟩
theorem hd_X4_writeTo : yX4_writeTo.cls ≠ "java/lang/invoke/MethodHandle" ∧ yX4_writeTo.cls ≠ "java/lang/invoke/VarHandle" ∧ (parseMethodDescriptor yX4_writeTo.desc).map (fun d => d.parameters.length) = some 2 := ⟨hc_9.1, hc_9.2, hp_8⟩
theorem hc_10 : ("NoSecond$Past" : String) ≠ "java/lang/invoke/MethodHandle" ∧ ("NoSecond$Past" : String) ≠ "java/lang/invoke/VarHandle" := by decide +kernel
theorem hp_30 : (parseMethodDescriptor "(LNoSecond$Moving;)I").map (fun d => d.parameters.length) = some 1 := by decide +kernel
theorem hd_X5_bringBack : yX5_bringBack.cls ≠ "java/lang/invoke/MethodHandle" ∧ yX5_bringBack.cls ≠ "java/lang/invoke/VarHandle" ∧ (parseMethodDescriptor yX5_bringBack.desc).map (fun d => d.parameters.length) = some 1 := ⟨hc_10.1, hc_10.2, hp_30⟩
theorem hd_X5_clear : yX5_clear.cls ≠ "java/lang/invoke/MethodHandle" ∧ yX5_clear.cls ≠ "java/lang/invoke/VarHandle" ∧ (parseMethodDescriptor yX5_clear.desc).map (fun d => d.parameters.length) = some 0 := ⟨hc_10.1, hc_10.2, hp_11⟩
theorem hp_31 : (parseMethodDescriptor "(ILNoSecond$Moving;)V").map (fun d => d.parameters.length) = some 2 := by decide +kernel
theorem hd_X5_keep : yX5_keep.cls ≠ "java/lang/invoke/MethodHandle" ∧ yX5_keep.cls ≠ "java/lang/invoke/VarHandle" ∧ (parseMethodDescriptor yX5_keep.desc).map (fun d => d.parameters.length) = some 2 := ⟨hc_10.1, hc_10.2, hp_31⟩
theorem hp_32 : (parseMethodDescriptor "(LNoSecond$Past;)V").map (fun d => d.parameters.length) = some 1 := by decide +kernel
theorem hd_X5_set : yX5_set.cls ≠ "java/lang/invoke/MethodHandle" ∧ yX5_set.cls ≠ "java/lang/invoke/VarHandle" ∧ (parseMethodDescriptor yX5_set.desc).map (fun d => d.parameters.length) = some 1 := ⟨hc_10.1, hc_10.2, hp_32⟩
theorem hc_11 : ("NoSecond$Reader" : String) ≠ "java/lang/invoke/MethodHandle" ∧ ("NoSecond$Reader" : String) ≠ "java/lang/invoke/VarHandle" := by decide +kernel
theorem hd_X6_addNumber : yX6_addNumber.cls ≠ "java/lang/invoke/MethodHandle" ∧ yX6_addNumber.cls ≠ "java/lang/invoke/VarHandle" ∧ (parseMethodDescriptor yX6_addNumber.desc).map (fun d => d.parameters.length) = some 1 := ⟨hc_11.1, hc_11.2, hp_12⟩
theorem hd_X6_byteAt : yX6_byteAt.cls ≠ "java/lang/invoke/MethodHandle" ∧ yX6_byteAt.cls ≠ "java/lang/invoke/VarHandle" ∧ (parseMethodDescriptor yX6_byteAt.desc).map (fun d => d.parameters.length) = some 1 := ⟨hc_11.1, hc_11.2, hp_7⟩
theorem hd_X6_hasRoom : yX6_hasRoom.cls ≠ "java/lang/invoke/MethodHandle" ∧ yX6_hasRoom.cls ≠ "java/lang/invoke/VarHandle" ∧ (parseMethodDescriptor yX6_hasRoom.desc).map (fun d => d.parameters.length) = some 1 := ⟨hc_11.1, hc_11.2, hp_13⟩
theorem hd_X6_isDigit : yX6_isDigit.cls ≠ "java/lang/invoke/MethodHandle" ∧ yX6_isDigit.cls ≠ "java/lang/invoke/VarHandle" ∧ (parseMethodDescriptor yX6_isDigit.desc).map (fun d => d.parameters.length) = some 1 := ⟨hc_11.1, hc_11.2, hp_13⟩
theorem hd_X6_isLetter : yX6_isLetter.cls ≠ "java/lang/invoke/MethodHandle" ∧ yX6_isLetter.cls ≠ "java/lang/invoke/VarHandle" ∧ (parseMethodDescriptor yX6_isLetter.desc).map (fun d => d.parameters.length) = some 1 := ⟨hc_11.1, hc_11.2, hp_13⟩
theorem hp_33 : (parseMethodDescriptor "(Ljava/lang/String;II)Z").map (fun d => d.parameters.length) = some 3 := by decide +kernel
theorem hd_X6_isSame : yX6_isSame.cls ≠ "java/lang/invoke/MethodHandle" ∧ yX6_isSame.cls ≠ "java/lang/invoke/VarHandle" ∧ (parseMethodDescriptor yX6_isSame.desc).map (fun d => d.parameters.length) = some 3 := ⟨hc_11.1, hc_11.2, hp_33⟩
theorem hp_34 : (parseMethodDescriptor "(C)Z").map (fun d => d.parameters.length) = some 1 := by decide +kernel
theorem hd_X6_isSign : yX6_isSign.cls ≠ "java/lang/invoke/MethodHandle" ∧ yX6_isSign.cls ≠ "java/lang/invoke/VarHandle" ∧ (parseMethodDescriptor yX6_isSign.desc).map (fun d => d.parameters.length) = some 1 := ⟨hc_11.1, hc_11.2, hp_34⟩
theorem hp_35 : (parseMethodDescriptor "(Ljava/lang/String;)Z").map (fun d => d.parameters.length) = some 1 := by decide +kernel
theorem hd_X6_isWord : yX6_isWord.cls ≠ "java/lang/invoke/MethodHandle" ∧ yX6_isWord.cls ≠ "java/lang/invoke/VarHandle" ∧ (parseMethodDescriptor yX6_isWord.desc).map (fun d => d.parameters.length) = some 1 := ⟨hc_11.1, hc_11.2, hp_35⟩
theorem hd_X6_readBoth : yX6_readBoth.cls ≠ "java/lang/invoke/MethodHandle" ∧ yX6_readBoth.cls ≠ "java/lang/invoke/VarHandle" ∧ (parseMethodDescriptor yX6_readBoth.desc).map (fun d => d.parameters.length) = some 1 := ⟨hc_11.1, hc_11.2, hp_13⟩
theorem hd_X6_readClause : yX6_readClause.cls ≠ "java/lang/invoke/MethodHandle" ∧ yX6_readClause.cls ≠ "java/lang/invoke/VarHandle" ∧ (parseMethodDescriptor yX6_readClause.desc).map (fun d => d.parameters.length) = some 1 := ⟨hc_11.1, hc_11.2, hp_13⟩
theorem hd_X6_readPart : yX6_readPart.cls ≠ "java/lang/invoke/MethodHandle" ∧ yX6_readPart.cls ≠ "java/lang/invoke/VarHandle" ∧ (parseMethodDescriptor yX6_readPart.desc).map (fun d => d.parameters.length) = some 1 := ⟨hc_11.1, hc_11.2, hp_13⟩
theorem hd_X6_readPlain : yX6_readPlain.cls ≠ "java/lang/invoke/MethodHandle" ∧ yX6_readPlain.cls ≠ "java/lang/invoke/VarHandle" ∧ (parseMethodDescriptor yX6_readPlain.desc).map (fun d => d.parameters.length) = some 1 := ⟨hc_11.1, hc_11.2, hp_13⟩
theorem hd_X6_readSinglePart : yX6_readSinglePart.cls ≠ "java/lang/invoke/MethodHandle" ∧ yX6_readSinglePart.cls ≠ "java/lang/invoke/VarHandle" ∧ (parseMethodDescriptor yX6_readSinglePart.desc).map (fun d => d.parameters.length) = some 0 := ⟨hc_11.1, hc_11.2, hp_3⟩
theorem hd_X6_readSum : yX6_readSum.cls ≠ "java/lang/invoke/MethodHandle" ∧ yX6_readSum.cls ≠ "java/lang/invoke/VarHandle" ∧ (parseMethodDescriptor yX6_readSum.desc).map (fun d => d.parameters.length) = some 1 := ⟨hc_11.1, hc_11.2, hp_13⟩
theorem hd_X6_readTerm : yX6_readTerm.cls ≠ "java/lang/invoke/MethodHandle" ∧ yX6_readTerm.cls ≠ "java/lang/invoke/VarHandle" ∧ (parseMethodDescriptor yX6_readTerm.desc).map (fun d => d.parameters.length) = some 1 := ⟨hc_11.1, hc_11.2, hp_13⟩
theorem hd_X6_readTest : yX6_readTest.cls ≠ "java/lang/invoke/MethodHandle" ∧ yX6_readTest.cls ≠ "java/lang/invoke/VarHandle" ∧ (parseMethodDescriptor yX6_readTest.desc).map (fun d => d.parameters.length) = some 1 := ⟨hc_11.1, hc_11.2, hp_13⟩
theorem hp_36 : (parseMethodDescriptor "(Z)Z").map (fun d => d.parameters.length) = some 1 := by decide +kernel
theorem hd_X6_readText : yX6_readText.cls ≠ "java/lang/invoke/MethodHandle" ∧ yX6_readText.cls ≠ "java/lang/invoke/VarHandle" ∧ (parseMethodDescriptor yX6_readText.desc).map (fun d => d.parameters.length) = some 1 := ⟨hc_11.1, hc_11.2, hp_36⟩
theorem hd_X6_step : yX6_step.cls ≠ "java/lang/invoke/MethodHandle" ∧ yX6_step.cls ≠ "java/lang/invoke/VarHandle" ∧ (parseMethodDescriptor yX6_step.desc).map (fun d => d.parameters.length) = some 0 := ⟨hc_11.1, hc_11.2, hp_11⟩
theorem hd_X6_stop : yX6_stop.cls ≠ "java/lang/invoke/MethodHandle" ∧ yX6_stop.cls ≠ "java/lang/invoke/VarHandle" ∧ (parseMethodDescriptor yX6_stop.desc).map (fun d => d.parameters.length) = some 0 := ⟨hc_11.1, hc_11.2, hp_3⟩
theorem hp_37 : (parseMethodDescriptor "(Ljava/lang/String;)I").map (fun d => d.parameters.length) = some 1 := by decide +kernel
theorem hd_X6_wordOf : yX6_wordOf.cls ≠ "java/lang/invoke/MethodHandle" ∧ yX6_wordOf.cls ≠ "java/lang/invoke/VarHandle" ∧ (parseMethodDescriptor yX6_wordOf.desc).map (fun d => d.parameters.length) = some 1 := ⟨hc_11.1, hc_11.2, hp_37⟩
theorem hc_12 : ("NoSecond$Study" : String) ≠ "java/lang/invoke/MethodHandle" ∧ ("NoSecond$Study" : String) ≠ "java/lang/invoke/VarHandle" := by decide +kernel
theorem hd_X7_aheadOf : yX7_aheadOf.cls ≠ "java/lang/invoke/MethodHandle" ∧ yX7_aheadOf.cls ≠ "java/lang/invoke/VarHandle" ∧ (parseMethodDescriptor yX7_aheadOf.desc).map (fun d => d.parameters.length) = some 2 := ⟨hc_12.1, hc_12.2, hp_10⟩
theorem hd_X7_alikeMost : yX7_alikeMost.cls ≠ "java/lang/invoke/MethodHandle" ∧ yX7_alikeMost.cls ≠ "java/lang/invoke/VarHandle" ∧ (parseMethodDescriptor yX7_alikeMost.desc).map (fun d => d.parameters.length) = some 2 := ⟨hc_12.1, hc_12.2, hp_10⟩
theorem hd_X7_awaitChildren : yX7_awaitChildren.cls ≠ "java/lang/invoke/MethodHandle" ∧ yX7_awaitChildren.cls ≠ "java/lang/invoke/VarHandle" ∧ (parseMethodDescriptor yX7_awaitChildren.desc).map (fun d => d.parameters.length) = some 2 := ⟨hc_12.1, hc_12.2, hp_10⟩
theorem hd_X7_bestFrom : yX7_bestFrom.cls ≠ "java/lang/invoke/MethodHandle" ∧ yX7_bestFrom.cls ≠ "java/lang/invoke/VarHandle" ∧ (parseMethodDescriptor yX7_bestFrom.desc).map (fun d => d.parameters.length) = some 2 := ⟨hc_12.1, hc_12.2, hp_10⟩
theorem hd_X7_brokenBy : yX7_brokenBy.cls ≠ "java/lang/invoke/MethodHandle" ∧ yX7_brokenBy.cls ≠ "java/lang/invoke/VarHandle" ∧ (parseMethodDescriptor yX7_brokenBy.desc).map (fun d => d.parameters.length) = some 2 := ⟨hc_12.1, hc_12.2, hp_10⟩
theorem hp_38 : (parseMethodDescriptor "(II)J").map (fun d => d.parameters.length) = some 2 := by decide +kernel
theorem hd_X7_chanceOfFewer : yX7_chanceOfFewer.cls ≠ "java/lang/invoke/MethodHandle" ∧ yX7_chanceOfFewer.cls ≠ "java/lang/invoke/VarHandle" ∧ (parseMethodDescriptor yX7_chanceOfFewer.desc).map (fun d => d.parameters.length) = some 2 := ⟨hc_12.1, hc_12.2, hp_38⟩
theorem hp_39 : (parseMethodDescriptor "(III)I").map (fun d => d.parameters.length) = some 3 := by decide +kernel
theorem hd_X7_changedEntries : yX7_changedEntries.cls ≠ "java/lang/invoke/MethodHandle" ∧ yX7_changedEntries.cls ≠ "java/lang/invoke/VarHandle" ∧ (parseMethodDescriptor yX7_changedEntries.desc).map (fun d => d.parameters.length) = some 3 := ⟨hc_12.1, hc_12.2, hp_39⟩
theorem hd_X7_circleCount : yX7_circleCount.cls ≠ "java/lang/invoke/MethodHandle" ∧ yX7_circleCount.cls ≠ "java/lang/invoke/VarHandle" ∧ (parseMethodDescriptor yX7_circleCount.desc).map (fun d => d.parameters.length) = some 0 := ⟨hc_12.1, hc_12.2, hp_4⟩
theorem hd_X7_crownAll : yX7_crownAll.cls ≠ "java/lang/invoke/MethodHandle" ∧ yX7_crownAll.cls ≠ "java/lang/invoke/VarHandle" ∧ (parseMethodDescriptor yX7_crownAll.desc).map (fun d => d.parameters.length) = some 0 := ⟨hc_12.1, hc_12.2, hp_4⟩
theorem hd_X7_elders : yX7_elders.cls ≠ "java/lang/invoke/MethodHandle" ∧ yX7_elders.cls ≠ "java/lang/invoke/VarHandle" ∧ (parseMethodDescriptor yX7_elders.desc).map (fun d => d.parameters.length) = some 1 := ⟨hc_12.1, hc_12.2, hp_7⟩
theorem hd_X7_firstCrowned : yX7_firstCrowned.cls ≠ "java/lang/invoke/MethodHandle" ∧ yX7_firstCrowned.cls ≠ "java/lang/invoke/VarHandle" ∧ (parseMethodDescriptor yX7_firstCrowned.desc).map (fun d => d.parameters.length) = some 2 := ⟨hc_12.1, hc_12.2, hp_10⟩
theorem hd_X7_firstNext : yX7_firstNext.cls ≠ "java/lang/invoke/MethodHandle" ∧ yX7_firstNext.cls ≠ "java/lang/invoke/VarHandle" ∧ (parseMethodDescriptor yX7_firstNext.desc).map (fun d => d.parameters.length) = some 1 := ⟨hc_12.1, hc_12.2, hp_7⟩
theorem hd_X7_fitsAllSeen : yX7_fitsAllSeen.cls ≠ "java/lang/invoke/MethodHandle" ∧ yX7_fitsAllSeen.cls ≠ "java/lang/invoke/VarHandle" ∧ (parseMethodDescriptor yX7_fitsAllSeen.desc).map (fun d => d.parameters.length) = some 1 := ⟨hc_12.1, hc_12.2, hp_13⟩
theorem hp_40 : (parseMethodDescriptor "(III)Z").map (fun d => d.parameters.length) = some 3 := by decide +kernel
theorem hd_X7_isCircle : yX7_isCircle.cls ≠ "java/lang/invoke/MethodHandle" ∧ yX7_isCircle.cls ≠ "java/lang/invoke/VarHandle" ∧ (parseMethodDescriptor yX7_isCircle.desc).map (fun d => d.parameters.length) = some 3 := ⟨hc_12.1, hc_12.2, hp_40⟩
theorem hd_X7_lineOfHeirs : yX7_lineOfHeirs.cls ≠ "java/lang/invoke/MethodHandle" ∧ yX7_lineOfHeirs.cls ≠ "java/lang/invoke/VarHandle" ∧ (parseMethodDescriptor yX7_lineOfHeirs.desc).map (fun d => d.parameters.length) = some 0 := ⟨hc_12.1, hc_12.2, hp_4⟩
theorem hd_X7_lowestBits : yX7_lowestBits.cls ≠ "java/lang/invoke/MethodHandle" ∧ yX7_lowestBits.cls ≠ "java/lang/invoke/VarHandle" ∧ (parseMethodDescriptor yX7_lowestBits.desc).map (fun d => d.parameters.length) = some 2 := ⟨hc_12.1, hc_12.2, hp_10⟩
theorem hd_X7_neverSecond : yX7_neverSecond.cls ≠ "java/lang/invoke/MethodHandle" ∧ yX7_neverSecond.cls ≠ "java/lang/invoke/VarHandle" ∧ (parseMethodDescriptor yX7_neverSecond.desc).map (fun d => d.parameters.length) = some 0 := ⟨hc_12.1, hc_12.2, hp_4⟩
theorem hd_X7_raceToWatch : yX7_raceToWatch.cls ≠ "java/lang/invoke/MethodHandle" ∧ yX7_raceToWatch.cls ≠ "java/lang/invoke/VarHandle" ∧ (parseMethodDescriptor yX7_raceToWatch.desc).map (fun d => d.parameters.length) = some 0 := ⟨hc_12.1, hc_12.2, hp_4⟩
theorem hd_X7_rankAll : yX7_rankAll.cls ≠ "java/lang/invoke/MethodHandle" ∧ yX7_rankAll.cls ≠ "java/lang/invoke/VarHandle" ∧ (parseMethodDescriptor yX7_rankAll.desc).map (fun d => d.parameters.length) = some 0 := ⟨hc_12.1, hc_12.2, hp_4⟩
theorem hd_X7_scoreWith : yX7_scoreWith.cls ≠ "java/lang/invoke/MethodHandle" ∧ yX7_scoreWith.cls ≠ "java/lang/invoke/VarHandle" ∧ (parseMethodDescriptor yX7_scoreWith.desc).map (fun d => d.parameters.length) = some 3 := ⟨hc_12.1, hc_12.2, hp_39⟩
theorem hd_X7_setScores : yX7_setScores.cls ≠ "java/lang/invoke/MethodHandle" ∧ yX7_setScores.cls ≠ "java/lang/invoke/VarHandle" ∧ (parseMethodDescriptor yX7_setScores.desc).map (fun d => d.parameters.length) = some 1 := ⟨hc_12.1, hc_12.2, hp_12⟩
theorem hd_X7_suspects : yX7_suspects.cls ≠ "java/lang/invoke/MethodHandle" ∧ yX7_suspects.cls ≠ "java/lang/invoke/VarHandle" ∧ (parseMethodDescriptor yX7_suspects.desc).map (fun d => d.parameters.length) = some 0 := ⟨hc_12.1, hc_12.2, hp_4⟩
theorem hd_X7_waysUp : yX7_waysUp.cls ≠ "java/lang/invoke/MethodHandle" ∧ yX7_waysUp.cls ≠ "java/lang/invoke/VarHandle" ∧ (parseMethodDescriptor yX7_waysUp.desc).map (fun d => d.parameters.length) = some 2 := ⟨hc_12.1, hc_12.2, hp_38⟩
theorem hc_13 : ("NoSecond" : String) ≠ "java/lang/invoke/MethodHandle" ∧ ("NoSecond" : String) ≠ "java/lang/invoke/VarHandle" := by decide +kernel
theorem hd_X8_answer : yX8_answer.cls ≠ "java/lang/invoke/MethodHandle" ∧ yX8_answer.cls ≠ "java/lang/invoke/VarHandle" ∧ (parseMethodDescriptor yX8_answer.desc).map (fun d => d.parameters.length) = some 1 := ⟨hc_13.1, hc_13.2, hp_7⟩
theorem hd_X8_grant : yX8_grant.cls ≠ "java/lang/invoke/MethodHandle" ∧ yX8_grant.cls ≠ "java/lang/invoke/VarHandle" ∧ (parseMethodDescriptor yX8_grant.desc).map (fun d => d.parameters.length) = some 1 := ⟨hc_13.1, hc_13.2, hp_7⟩
theorem hd_X8_isRace : yX8_isRace.cls ≠ "java/lang/invoke/MethodHandle" ∧ yX8_isRace.cls ≠ "java/lang/invoke/VarHandle" ∧ (parseMethodDescriptor yX8_isRace.desc).map (fun d => d.parameters.length) = some 1 := ⟨hc_13.1, hc_13.2, hp_13⟩
theorem hd_X8_isTrade : yX8_isTrade.cls ≠ "java/lang/invoke/MethodHandle" ∧ yX8_isTrade.cls ≠ "java/lang/invoke/VarHandle" ∧ (parseMethodDescriptor yX8_isTrade.desc).map (fun d => d.parameters.length) = some 1 := ⟨hc_13.1, hc_13.2, hp_13⟩
theorem hd_X8_nextDraw : yX8_nextDraw.cls ≠ "java/lang/invoke/MethodHandle" ∧ yX8_nextDraw.cls ≠ "java/lang/invoke/VarHandle" ∧ (parseMethodDescriptor yX8_nextDraw.desc).map (fun d => d.parameters.length) = some 1 := ⟨hc_13.1, hc_13.2, hp_7⟩
theorem hp_41 : (parseMethodDescriptor "(LNoSecond$Code;I)Z").map (fun d => d.parameters.length) = some 2 := by decide +kernel
theorem hd_X8_obey : yX8_obey.cls ≠ "java/lang/invoke/MethodHandle" ∧ yX8_obey.cls ≠ "java/lang/invoke/VarHandle" ∧ (parseMethodDescriptor yX8_obey.desc).map (fun d => d.parameters.length) = some 2 := ⟨hc_13.1, hc_13.2, hp_41⟩
theorem hd_X8_refuse : yX8_refuse.cls ≠ "java/lang/invoke/MethodHandle" ∧ yX8_refuse.cls ≠ "java/lang/invoke/VarHandle" ∧ (parseMethodDescriptor yX8_refuse.desc).map (fun d => d.parameters.length) = some 1 := ⟨hc_13.1, hc_13.2, hp_7⟩
theorem hd_X8_tellRow : yX8_tellRow.cls ≠ "java/lang/invoke/MethodHandle" ∧ yX8_tellRow.cls ≠ "java/lang/invoke/VarHandle" ∧ (parseMethodDescriptor yX8_tellRow.desc).map (fun d => d.parameters.length) = some 1 := ⟨hc_13.1, hc_13.2, hp_13⟩
theorem hc_14 : ("NoSecondModel" : String) ≠ "java/lang/invoke/MethodHandle" ∧ ("NoSecondModel" : String) ≠ "java/lang/invoke/VarHandle" := by decide +kernel
theorem hd_X9_act : yX9_act.cls ≠ "java/lang/invoke/MethodHandle" ∧ yX9_act.cls ≠ "java/lang/invoke/VarHandle" ∧ (parseMethodDescriptor yX9_act.desc).map (fun d => d.parameters.length) = some 2 := ⟨hc_14.1, hc_14.2, hp_10⟩
theorem hd_X9_begin : yX9_begin.cls ≠ "java/lang/invoke/MethodHandle" ∧ yX9_begin.cls ≠ "java/lang/invoke/VarHandle" ∧ (parseMethodDescriptor yX9_begin.desc).map (fun d => d.parameters.length) = some 0 := ⟨hc_14.1, hc_14.2, hp_11⟩
theorem hp_42 : (parseMethodDescriptor "(Z)V").map (fun d => d.parameters.length) = some 1 := by decide +kernel
theorem hd_X9_beginText : yX9_beginText.cls ≠ "java/lang/invoke/MethodHandle" ∧ yX9_beginText.cls ≠ "java/lang/invoke/VarHandle" ∧ (parseMethodDescriptor yX9_beginText.desc).map (fun d => d.parameters.length) = some 1 := ⟨hc_14.1, hc_14.2, hp_42⟩
theorem hp_43 : (parseMethodDescriptor "(Z)I").map (fun d => d.parameters.length) = some 1 := by decide +kernel
theorem hd_X9_behindSum : yX9_behindSum.cls ≠ "java/lang/invoke/MethodHandle" ∧ yX9_behindSum.cls ≠ "java/lang/invoke/VarHandle" ∧ (parseMethodDescriptor yX9_behindSum.desc).map (fun d => d.parameters.length) = some 1 := ⟨hc_14.1, hc_14.2, hp_43⟩
theorem hd_X9_behindTest : yX9_behindTest.cls ≠ "java/lang/invoke/MethodHandle" ∧ yX9_behindTest.cls ≠ "java/lang/invoke/VarHandle" ∧ (parseMethodDescriptor yX9_behindTest.desc).map (fun d => d.parameters.length) = some 0 := ⟨hc_14.1, hc_14.2, hp_4⟩
theorem hd_X9_binds : yX9_binds.cls ≠ "java/lang/invoke/MethodHandle" ∧ yX9_binds.cls ≠ "java/lang/invoke/VarHandle" ∧ (parseMethodDescriptor yX9_binds.desc).map (fun d => d.parameters.length) = some 1 := ⟨hc_14.1, hc_14.2, hp_7⟩
theorem hd_X9_change : yX9_change.cls ≠ "java/lang/invoke/MethodHandle" ∧ yX9_change.cls ≠ "java/lang/invoke/VarHandle" ∧ (parseMethodDescriptor yX9_change.desc).map (fun d => d.parameters.length) = some 2 := ⟨hc_14.1, hc_14.2, hp_10⟩
theorem hd_X9_draw : yX9_draw.cls ≠ "java/lang/invoke/MethodHandle" ∧ yX9_draw.cls ≠ "java/lang/invoke/VarHandle" ∧ (parseMethodDescriptor yX9_draw.desc).map (fun d => d.parameters.length) = some 1 := ⟨hc_14.1, hc_14.2, hp_7⟩
theorem hd_X9_elder : yX9_elder.cls ≠ "java/lang/invoke/MethodHandle" ∧ yX9_elder.cls ≠ "java/lang/invoke/VarHandle" ∧ (parseMethodDescriptor yX9_elder.desc).map (fun d => d.parameters.length) = some 1 := ⟨hc_14.1, hc_14.2, hp_7⟩
theorem hd_X9_emit : yX9_emit.cls ≠ "java/lang/invoke/MethodHandle" ∧ yX9_emit.cls ≠ "java/lang/invoke/VarHandle" ∧ (parseMethodDescriptor yX9_emit.desc).map (fun d => d.parameters.length) = some 2 := ⟨hc_14.1, hc_14.2, hp_1⟩
theorem hd_X9_endText : yX9_endText.cls ≠ "java/lang/invoke/MethodHandle" ∧ yX9_endText.cls ≠ "java/lang/invoke/VarHandle" ∧ (parseMethodDescriptor yX9_endText.desc).map (fun d => d.parameters.length) = some 0 := ⟨hc_14.1, hc_14.2, hp_11⟩
theorem hd_X9_enterNow : yX9_enterNow.cls ≠ "java/lang/invoke/MethodHandle" ∧ yX9_enterNow.cls ≠ "java/lang/invoke/VarHandle" ∧ (parseMethodDescriptor yX9_enterNow.desc).map (fun d => d.parameters.length) = some 1 := ⟨hc_14.1, hc_14.2, hp_7⟩
theorem hd_X9_enteredBits : yX9_enteredBits.cls ≠ "java/lang/invoke/MethodHandle" ∧ yX9_enteredBits.cls ≠ "java/lang/invoke/VarHandle" ∧ (parseMethodDescriptor yX9_enteredBits.desc).map (fun d => d.parameters.length) = some 0 := ⟨hc_14.1, hc_14.2, hp_4⟩
theorem hd_X9_enteredOnes : yX9_enteredOnes.cls ≠ "java/lang/invoke/MethodHandle" ∧ yX9_enteredOnes.cls ≠ "java/lang/invoke/VarHandle" ∧ (parseMethodDescriptor yX9_enteredOnes.desc).map (fun d => d.parameters.length) = some 0 := ⟨hc_14.1, hc_14.2, hp_4⟩
theorem hd_X9_findCrowned : yX9_findCrowned.cls ≠ "java/lang/invoke/MethodHandle" ∧ yX9_findCrowned.cls ≠ "java/lang/invoke/VarHandle" ∧ (parseMethodDescriptor yX9_findCrowned.desc).map (fun d => d.parameters.length) = some 0 := ⟨hc_14.1, hc_14.2, hp_4⟩
theorem hd_X9_four : yX9_four.cls ≠ "java/lang/invoke/MethodHandle" ∧ yX9_four.cls ≠ "java/lang/invoke/VarHandle" ∧ (parseMethodDescriptor yX9_four.desc).map (fun d => d.parameters.length) = some 1 := ⟨hc_14.1, hc_14.2, hp_12⟩
theorem hd_X9_giveBack : yX9_giveBack.cls ≠ "java/lang/invoke/MethodHandle" ∧ yX9_giveBack.cls ≠ "java/lang/invoke/VarHandle" ∧ (parseMethodDescriptor yX9_giveBack.desc).map (fun d => d.parameters.length) = some 1 := ⟨hc_14.1, hc_14.2, hp_12⟩
theorem hd_X9_hasLike : yX9_hasLike.cls ≠ "java/lang/invoke/MethodHandle" ∧ yX9_hasLike.cls ≠ "java/lang/invoke/VarHandle" ∧ (parseMethodDescriptor yX9_hasLike.desc).map (fun d => d.parameters.length) = some 1 := ⟨hc_14.1, hc_14.2, hp_13⟩
theorem hp_44 : (parseMethodDescriptor "(JJJ)Z").map (fun d => d.parameters.length) = some 3 := by decide +kernel
theorem hd_X9_in : yX9_in.cls ≠ "java/lang/invoke/MethodHandle" ∧ yX9_in.cls ≠ "java/lang/invoke/VarHandle" ∧ (parseMethodDescriptor yX9_in.desc).map (fun d => d.parameters.length) = some 3 := ⟨hc_14.1, hc_14.2, hp_44⟩
theorem hd_X9_inner : yX9_inner.cls ≠ "java/lang/invoke/MethodHandle" ∧ yX9_inner.cls ≠ "java/lang/invoke/VarHandle" ∧ (parseMethodDescriptor yX9_inner.desc).map (fun d => d.parameters.length) = some 0 := ⟨hc_14.1, hc_14.2, hp_4⟩
theorem hp_45 : (parseMethodDescriptor "(II)Z").map (fun d => d.parameters.length) = some 2 := by decide +kernel
theorem hd_X9_is : yX9_is.cls ≠ "java/lang/invoke/MethodHandle" ∧ yX9_is.cls ≠ "java/lang/invoke/VarHandle" ∧ (parseMethodDescriptor yX9_is.desc).map (fun d => d.parameters.length) = some 2 := ⟨hc_14.1, hc_14.2, hp_45⟩
theorem hd_X9_isBarred : yX9_isBarred.cls ≠ "java/lang/invoke/MethodHandle" ∧ yX9_isBarred.cls ≠ "java/lang/invoke/VarHandle" ∧ (parseMethodDescriptor yX9_isBarred.desc).map (fun d => d.parameters.length) = some 2 := ⟨hc_14.1, hc_14.2, hp_45⟩
theorem hd_X9_isCompared : yX9_isCompared.cls ≠ "java/lang/invoke/MethodHandle" ∧ yX9_isCompared.cls ≠ "java/lang/invoke/VarHandle" ∧ (parseMethodDescriptor yX9_isCompared.desc).map (fun d => d.parameters.length) = some 0 := ⟨hc_14.1, hc_14.2, hp_3⟩
theorem hd_X9_isDigit : yX9_isDigit.cls ≠ "java/lang/invoke/MethodHandle" ∧ yX9_isDigit.cls ≠ "java/lang/invoke/VarHandle" ∧ (parseMethodDescriptor yX9_isDigit.desc).map (fun d => d.parameters.length) = some 1 := ⟨hc_14.1, hc_14.2, hp_13⟩
theorem hd_X9_isFree : yX9_isFree.cls ≠ "java/lang/invoke/MethodHandle" ∧ yX9_isFree.cls ≠ "java/lang/invoke/VarHandle" ∧ (parseMethodDescriptor yX9_isFree.desc).map (fun d => d.parameters.length) = some 1 := ⟨hc_14.1, hc_14.2, hp_13⟩
theorem hd_X9_isLaw : yX9_isLaw.cls ≠ "java/lang/invoke/MethodHandle" ∧ yX9_isLaw.cls ≠ "java/lang/invoke/VarHandle" ∧ (parseMethodDescriptor yX9_isLaw.desc).map (fun d => d.parameters.length) = some 1 := ⟨hc_14.1, hc_14.2, hp_13⟩
theorem hd_X9_isPerson : yX9_isPerson.cls ≠ "java/lang/invoke/MethodHandle" ∧ yX9_isPerson.cls ≠ "java/lang/invoke/VarHandle" ∧ (parseMethodDescriptor yX9_isPerson.desc).map (fun d => d.parameters.length) = some 1 := ⟨hc_14.1, hc_14.2, hp_13⟩
theorem hd_X9_isRace : yX9_isRace.cls ≠ "java/lang/invoke/MethodHandle" ∧ yX9_isRace.cls ≠ "java/lang/invoke/VarHandle" ∧ (parseMethodDescriptor yX9_isRace.desc).map (fun d => d.parameters.length) = some 1 := ⟨hc_14.1, hc_14.2, hp_13⟩
theorem hd_X9_isSign : yX9_isSign.cls ≠ "java/lang/invoke/MethodHandle" ∧ yX9_isSign.cls ≠ "java/lang/invoke/VarHandle" ∧ (parseMethodDescriptor yX9_isSign.desc).map (fun d => d.parameters.length) = some 1 := ⟨hc_14.1, hc_14.2, hp_13⟩
theorem hd_X9_isSmall : yX9_isSmall.cls ≠ "java/lang/invoke/MethodHandle" ∧ yX9_isSmall.cls ≠ "java/lang/invoke/VarHandle" ∧ (parseMethodDescriptor yX9_isSmall.desc).map (fun d => d.parameters.length) = some 1 := ⟨hc_14.1, hc_14.2, hp_13⟩
theorem hd_X9_isSo : yX9_isSo.cls ≠ "java/lang/invoke/MethodHandle" ∧ yX9_isSo.cls ≠ "java/lang/invoke/VarHandle" ∧ (parseMethodDescriptor yX9_isSo.desc).map (fun d => d.parameters.length) = some 1 := ⟨hc_14.1, hc_14.2, hp_13⟩
theorem hd_X9_isTold : yX9_isTold.cls ≠ "java/lang/invoke/MethodHandle" ∧ yX9_isTold.cls ≠ "java/lang/invoke/VarHandle" ∧ (parseMethodDescriptor yX9_isTold.desc).map (fun d => d.parameters.length) = some 1 := ⟨hc_14.1, hc_14.2, hp_13⟩
theorem hp_46 : (parseMethodDescriptor "(J)Z").map (fun d => d.parameters.length) = some 1 := by decide +kernel
theorem hd_X9_isWord : yX9_isWord.cls ≠ "java/lang/invoke/MethodHandle" ∧ yX9_isWord.cls ≠ "java/lang/invoke/VarHandle" ∧ (parseMethodDescriptor yX9_isWord.desc).map (fun d => d.parameters.length) = some 1 := ⟨hc_14.1, hc_14.2, hp_46⟩
theorem hd_X9_keepAll : yX9_keepAll.cls ≠ "java/lang/invoke/MethodHandle" ∧ yX9_keepAll.cls ≠ "java/lang/invoke/VarHandle" ∧ (parseMethodDescriptor yX9_keepAll.desc).map (fun d => d.parameters.length) = some 1 := ⟨hc_14.1, hc_14.2, hp_12⟩
theorem hd_X9_layLeft : yX9_layLeft.cls ≠ "java/lang/invoke/MethodHandle" ∧ yX9_layLeft.cls ≠ "java/lang/invoke/VarHandle" ∧ (parseMethodDescriptor yX9_layLeft.desc).map (fun d => d.parameters.length) = some 0 := ⟨hc_14.1, hc_14.2, hp_11⟩
theorem hd_X9_layLine : yX9_layLine.cls ≠ "java/lang/invoke/MethodHandle" ∧ yX9_layLine.cls ≠ "java/lang/invoke/VarHandle" ∧ (parseMethodDescriptor yX9_layLine.desc).map (fun d => d.parameters.length) = some 0 := ⟨hc_14.1, hc_14.2, hp_4⟩
theorem hd_X9_layPlaces : yX9_layPlaces.cls ≠ "java/lang/invoke/MethodHandle" ∧ yX9_layPlaces.cls ≠ "java/lang/invoke/VarHandle" ∧ (parseMethodDescriptor yX9_layPlaces.desc).map (fun d => d.parameters.length) = some 1 := ⟨hc_14.1, hc_14.2, hp_12⟩
theorem hd_X9_layRuns : yX9_layRuns.cls ≠ "java/lang/invoke/MethodHandle" ∧ yX9_layRuns.cls ≠ "java/lang/invoke/VarHandle" ∧ (parseMethodDescriptor yX9_layRuns.desc).map (fun d => d.parameters.length) = some 1 := ⟨hc_14.1, hc_14.2, hp_12⟩
theorem hp_47 : (parseMethodDescriptor "(ZII)V").map (fun d => d.parameters.length) = some 3 := by decide +kernel
theorem hd_X9_leaf : yX9_leaf.cls ≠ "java/lang/invoke/MethodHandle" ∧ yX9_leaf.cls ≠ "java/lang/invoke/VarHandle" ∧ (parseMethodDescriptor yX9_leaf.desc).map (fun d => d.parameters.length) = some 3 := ⟨hc_14.1, hc_14.2, hp_47⟩
theorem hd_X9_leftBy : yX9_leftBy.cls ≠ "java/lang/invoke/MethodHandle" ∧ yX9_leftBy.cls ≠ "java/lang/invoke/VarHandle" ∧ (parseMethodDescriptor yX9_leftBy.desc).map (fun d => d.parameters.length) = some 2 := ⟨hc_14.1, hc_14.2, hp_10⟩
theorem hd_X9_must : yX9_must.cls ≠ "java/lang/invoke/MethodHandle" ∧ yX9_must.cls ≠ "java/lang/invoke/VarHandle" ∧ (parseMethodDescriptor yX9_must.desc).map (fun d => d.parameters.length) = some 1 := ⟨hc_14.1, hc_14.2, hp_42⟩
theorem hd_X9_next : yX9_next.cls ≠ "java/lang/invoke/MethodHandle" ∧ yX9_next.cls ≠ "java/lang/invoke/VarHandle" ∧ (parseMethodDescriptor yX9_next.desc).map (fun d => d.parameters.length) = some 0 := ⟨hc_14.1, hc_14.2, hp_11⟩
theorem hp_48 : (parseMethodDescriptor "(JJ)I").map (fun d => d.parameters.length) = some 2 := by decide +kernel
theorem hd_X9_number : yX9_number.cls ≠ "java/lang/invoke/MethodHandle" ∧ yX9_number.cls ≠ "java/lang/invoke/VarHandle" ∧ (parseMethodDescriptor yX9_number.desc).map (fun d => d.parameters.length) = some 2 := ⟨hc_14.1, hc_14.2, hp_48⟩
theorem hd_X9_ones : yX9_ones.cls ≠ "java/lang/invoke/MethodHandle" ∧ yX9_ones.cls ≠ "java/lang/invoke/VarHandle" ∧ (parseMethodDescriptor yX9_ones.desc).map (fun d => d.parameters.length) = some 1 := ⟨hc_14.1, hc_14.2, hp_7⟩
theorem hd_X9_openBracket : yX9_openBracket.cls ≠ "java/lang/invoke/MethodHandle" ∧ yX9_openBracket.cls ≠ "java/lang/invoke/VarHandle" ∧ (parseMethodDescriptor yX9_openBracket.desc).map (fun d => d.parameters.length) = some 1 := ⟨hc_14.1, hc_14.2, hp_12⟩
theorem hd_X9_orderPartAt : yX9_orderPartAt.cls ≠ "java/lang/invoke/MethodHandle" ∧ yX9_orderPartAt.cls ≠ "java/lang/invoke/VarHandle" ∧ (parseMethodDescriptor yX9_orderPartAt.desc).map (fun d => d.parameters.length) = some 0 := ⟨hc_14.1, hc_14.2, hp_4⟩
theorem hd_X9_orderSum : yX9_orderSum.cls ≠ "java/lang/invoke/MethodHandle" ∧ yX9_orderSum.cls ≠ "java/lang/invoke/VarHandle" ∧ (parseMethodDescriptor yX9_orderSum.desc).map (fun d => d.parameters.length) = some 1 := ⟨hc_14.1, hc_14.2, hp_7⟩
theorem hd_X9_partAt : yX9_partAt.cls ≠ "java/lang/invoke/MethodHandle" ∧ yX9_partAt.cls ≠ "java/lang/invoke/VarHandle" ∧ (parseMethodDescriptor yX9_partAt.desc).map (fun d => d.parameters.length) = some 0 := ⟨hc_14.1, hc_14.2, hp_4⟩
theorem hd_X9_passIt : yX9_passIt.cls ≠ "java/lang/invoke/MethodHandle" ∧ yX9_passIt.cls ≠ "java/lang/invoke/VarHandle" ∧ (parseMethodDescriptor yX9_passIt.desc).map (fun d => d.parameters.length) = some 0 := ⟨hc_14.1, hc_14.2, hp_4⟩
theorem hd_X9_passNow : yX9_passNow.cls ≠ "java/lang/invoke/MethodHandle" ∧ yX9_passNow.cls ≠ "java/lang/invoke/VarHandle" ∧ (parseMethodDescriptor yX9_passNow.desc).map (fun d => d.parameters.length) = some 0 := ⟨hc_14.1, hc_14.2, hp_4⟩
theorem hd_X9_placeOf : yX9_placeOf.cls ≠ "java/lang/invoke/MethodHandle" ∧ yX9_placeOf.cls ≠ "java/lang/invoke/VarHandle" ∧ (parseMethodDescriptor yX9_placeOf.desc).map (fun d => d.parameters.length) = some 2 := ⟨hc_14.1, hc_14.2, hp_10⟩
theorem hd_X9_push : yX9_push.cls ≠ "java/lang/invoke/MethodHandle" ∧ yX9_push.cls ≠ "java/lang/invoke/VarHandle" ∧ (parseMethodDescriptor yX9_push.desc).map (fun d => d.parameters.length) = some 2 := ⟨hc_14.1, hc_14.2, hp_1⟩
theorem hd_X9_putBack : yX9_putBack.cls ≠ "java/lang/invoke/MethodHandle" ∧ yX9_putBack.cls ≠ "java/lang/invoke/VarHandle" ∧ (parseMethodDescriptor yX9_putBack.desc).map (fun d => d.parameters.length) = some 1 := ⟨hc_14.1, hc_14.2, hp_12⟩
theorem hd_X9_raceIt : yX9_raceIt.cls ≠ "java/lang/invoke/MethodHandle" ∧ yX9_raceIt.cls ≠ "java/lang/invoke/VarHandle" ∧ (parseMethodDescriptor yX9_raceIt.desc).map (fun d => d.parameters.length) = some 1 := ⟨hc_14.1, hc_14.2, hp_7⟩
theorem hd_X9_raceNow : yX9_raceNow.cls ≠ "java/lang/invoke/MethodHandle" ∧ yX9_raceNow.cls ≠ "java/lang/invoke/VarHandle" ∧ (parseMethodDescriptor yX9_raceNow.desc).map (fun d => d.parameters.length) = some 1 := ⟨hc_14.1, hc_14.2, hp_7⟩
theorem hd_X9_readExpression : yX9_readExpression.cls ≠ "java/lang/invoke/MethodHandle" ∧ yX9_readExpression.cls ≠ "java/lang/invoke/VarHandle" ∧ (parseMethodDescriptor yX9_readExpression.desc).map (fun d => d.parameters.length) = some 1 := ⟨hc_14.1, hc_14.2, hp_42⟩
theorem hd_X9_readLaw : yX9_readLaw.cls ≠ "java/lang/invoke/MethodHandle" ∧ yX9_readLaw.cls ≠ "java/lang/invoke/VarHandle" ∧ (parseMethodDescriptor yX9_readLaw.desc).map (fun d => d.parameters.length) = some 0 := ⟨hc_14.1, hc_14.2, hp_11⟩
theorem hd_X9_readOrder : yX9_readOrder.cls ≠ "java/lang/invoke/MethodHandle" ∧ yX9_readOrder.cls ≠ "java/lang/invoke/VarHandle" ∧ (parseMethodDescriptor yX9_readOrder.desc).map (fun d => d.parameters.length) = some 0 := ⟨hc_14.1, hc_14.2, hp_11⟩
theorem hd_X9_readPart : yX9_readPart.cls ≠ "java/lang/invoke/MethodHandle" ∧ yX9_readPart.cls ≠ "java/lang/invoke/VarHandle" ∧ (parseMethodDescriptor yX9_readPart.desc).map (fun d => d.parameters.length) = some 0 := ⟨hc_14.1, hc_14.2, hp_4⟩
theorem hd_X9_readPlain : yX9_readPlain.cls ≠ "java/lang/invoke/MethodHandle" ∧ yX9_readPlain.cls ≠ "java/lang/invoke/VarHandle" ∧ (parseMethodDescriptor yX9_readPlain.desc).map (fun d => d.parameters.length) = some 0 := ⟨hc_14.1, hc_14.2, hp_4⟩
theorem hd_X9_readSum : yX9_readSum.cls ≠ "java/lang/invoke/MethodHandle" ∧ yX9_readSum.cls ≠ "java/lang/invoke/VarHandle" ∧ (parseMethodDescriptor yX9_readSum.desc).map (fun d => d.parameters.length) = some 1 := ⟨hc_14.1, hc_14.2, hp_12⟩
theorem hd_X9_reckon : yX9_reckon.cls ≠ "java/lang/invoke/MethodHandle" ∧ yX9_reckon.cls ≠ "java/lang/invoke/VarHandle" ∧ (parseMethodDescriptor yX9_reckon.desc).map (fun d => d.parameters.length) = some 3 := ⟨hc_14.1, hc_14.2, hp_24⟩
theorem hd_X9_reckonAll : yX9_reckonAll.cls ≠ "java/lang/invoke/MethodHandle" ∧ yX9_reckonAll.cls ≠ "java/lang/invoke/VarHandle" ∧ (parseMethodDescriptor yX9_reckonAll.desc).map (fun d => d.parameters.length) = some 2 := ⟨hc_14.1, hc_14.2, hp_1⟩
theorem hd_X9_remember : yX9_remember.cls ≠ "java/lang/invoke/MethodHandle" ∧ yX9_remember.cls ≠ "java/lang/invoke/VarHandle" ∧ (parseMethodDescriptor yX9_remember.desc).map (fun d => d.parameters.length) = some 1 := ⟨hc_14.1, hc_14.2, hp_12⟩
theorem hd_X9_run : yX9_run.cls ≠ "java/lang/invoke/MethodHandle" ∧ yX9_run.cls ≠ "java/lang/invoke/VarHandle" ∧ (parseMethodDescriptor yX9_run.desc).map (fun d => d.parameters.length) = some 1 := ⟨hc_14.1, hc_14.2, hp_7⟩
theorem hd_X9_runsOf : yX9_runsOf.cls ≠ "java/lang/invoke/MethodHandle" ∧ yX9_runsOf.cls ≠ "java/lang/invoke/VarHandle" ∧ (parseMethodDescriptor yX9_runsOf.desc).map (fun d => d.parameters.length) = some 2 := ⟨hc_14.1, hc_14.2, hp_10⟩
theorem hd_X9_scoreNow : yX9_scoreNow.cls ≠ "java/lang/invoke/MethodHandle" ∧ yX9_scoreNow.cls ≠ "java/lang/invoke/VarHandle" ∧ (parseMethodDescriptor yX9_scoreNow.desc).map (fun d => d.parameters.length) = some 0 := ⟨hc_14.1, hc_14.2, hp_4⟩
theorem hd_X9_settle : yX9_settle.cls ≠ "java/lang/invoke/MethodHandle" ∧ yX9_settle.cls ≠ "java/lang/invoke/VarHandle" ∧ (parseMethodDescriptor yX9_settle.desc).map (fun d => d.parameters.length) = some 1 := ⟨hc_14.1, hc_14.2, hp_12⟩
theorem hd_X9_settled : yX9_settled.cls ≠ "java/lang/invoke/MethodHandle" ∧ yX9_settled.cls ≠ "java/lang/invoke/VarHandle" ∧ (parseMethodDescriptor yX9_settled.desc).map (fun d => d.parameters.length) = some 1 := ⟨hc_14.1, hc_14.2, hp_7⟩
theorem hd_X9_sumOf : yX9_sumOf.cls ≠ "java/lang/invoke/MethodHandle" ∧ yX9_sumOf.cls ≠ "java/lang/invoke/VarHandle" ∧ (parseMethodDescriptor yX9_sumOf.desc).map (fun d => d.parameters.length) = some 2 := ⟨hc_14.1, hc_14.2, hp_10⟩
theorem hd_X9_takeIt : yX9_takeIt.cls ≠ "java/lang/invoke/MethodHandle" ∧ yX9_takeIt.cls ≠ "java/lang/invoke/VarHandle" ∧ (parseMethodDescriptor yX9_takeIt.desc).map (fun d => d.parameters.length) = some 1 := ⟨hc_14.1, hc_14.2, hp_12⟩
theorem hd_X9_takeNow : yX9_takeNow.cls ≠ "java/lang/invoke/MethodHandle" ∧ yX9_takeNow.cls ≠ "java/lang/invoke/VarHandle" ∧ (parseMethodDescriptor yX9_takeNow.desc).map (fun d => d.parameters.length) = some 1 := ⟨hc_14.1, hc_14.2, hp_7⟩
theorem hd_X9_tell : yX9_tell.cls ≠ "java/lang/invoke/MethodHandle" ∧ yX9_tell.cls ≠ "java/lang/invoke/VarHandle" ∧ (parseMethodDescriptor yX9_tell.desc).map (fun d => d.parameters.length) = some 1 := ⟨hc_14.1, hc_14.2, hp_7⟩
theorem hp_49 : (parseMethodDescriptor "(IIIIJ)J").map (fun d => d.parameters.length) = some 5 := by decide +kernel
theorem hd_X9_tells : yX9_tells.cls ≠ "java/lang/invoke/MethodHandle" ∧ yX9_tells.cls ≠ "java/lang/invoke/VarHandle" ∧ (parseMethodDescriptor yX9_tells.desc).map (fun d => d.parameters.length) = some 5 := ⟨hc_14.1, hc_14.2, hp_49⟩
theorem hd_X9_thatCanBe : yX9_thatCanBe.cls ≠ "java/lang/invoke/MethodHandle" ∧ yX9_thatCanBe.cls ≠ "java/lang/invoke/VarHandle" ∧ (parseMethodDescriptor yX9_thatCanBe.desc).map (fun d => d.parameters.length) = some 0 := ⟨hc_14.1, hc_14.2, hp_4⟩
theorem hd_X9_turnsOf : yX9_turnsOf.cls ≠ "java/lang/invoke/MethodHandle" ∧ yX9_turnsOf.cls ≠ "java/lang/invoke/VarHandle" ∧ (parseMethodDescriptor yX9_turnsOf.desc).map (fun d => d.parameters.length) = some 2 := ⟨hc_14.1, hc_14.2, hp_10⟩
theorem hd_X9_winsOf : yX9_winsOf.cls ≠ "java/lang/invoke/MethodHandle" ∧ yX9_winsOf.cls ≠ "java/lang/invoke/VarHandle" ∧ (parseMethodDescriptor yX9_winsOf.desc).map (fun d => d.parameters.length) = some 3 := ⟨hc_14.1, hc_14.2, hp_39⟩
theorem hp_50 : (parseMethodDescriptor "(JII)I").map (fun d => d.parameters.length) = some 3 := by decide +kernel
theorem hd_X9_within : yX9_within.cls ≠ "java/lang/invoke/MethodHandle" ∧ yX9_within.cls ≠ "java/lang/invoke/VarHandle" ∧ (parseMethodDescriptor yX9_within.desc).map (fun d => d.parameters.length) = some 3 := ⟨hc_14.1, hc_14.2, hp_50⟩
