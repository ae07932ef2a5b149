def wsL_turn_r8 : List Cond := [Cond.selects RX1 yX1_restBefore yX1_restBefore, Cond.code yX1_restBefore cX1_restBefore 6 (some .long), Cond.methodLink RX1 94 yX1_comesBefore, Cond.instanceMethod yX1_comesBefore, Cond.selects RX1 yX1_comesBefore yX1_comesBefore, Cond.code yX1_comesBefore cX1_comesBefore 6 (some .boolean), Cond.methodLink RX1 98 yX1_isLess, Cond.static yX1_isLess, Cond.code yX1_isLess cX1_isLess 4 (some .boolean), Cond.methodLink RX2 112 yX1_coverOpen, Cond.instanceMethod yX1_coverOpen, Cond.selects RX1 yX1_coverOpen yX1_coverOpen, Cond.code yX1_coverOpen cX1_coverOpen 4 (some .boolean), Cond.methodLink RX1 102 yX1_nextCoverer, Cond.methodLink RL 81 yX2_coverAll, Cond.instanceMethod yX2_coverAll, Cond.selects RX2 yX2_coverAll yX2_coverAll, Cond.code yX2_coverAll cX2_coverAll 1 (some .int), Cond.methodLink RX2 119 yX1_coverAllOpen, Cond.instanceMethod yX1_coverAllOpen, Cond.selects RX1 yX1_coverAllOpen yX1_coverAllOpen, Cond.code yX1_coverAllOpen cX1_coverAllOpen 3 (some .int), Cond.methodLink RX1 106 yX1_coverOpen, Cond.methodLink RL 63 yX2_handOver]
def wsL_turn_r9 : List Cond := [Cond.instanceMethod yX2_handOver, Cond.selects RX2 yX2_handOver yX2_handOver, Cond.code yX2_handOver cX2_handOver 4 (some .int), Cond.methodLink RX2 123 yX1_isCovered, Cond.instanceMethod yX1_isCovered, Cond.selects RX1 yX1_isCovered yX1_isCovered, Cond.code yX1_isCovered cX1_isCovered 2 (some .boolean), Cond.methodLink RX2 126 yX1_hindrance, Cond.methodLink RX2 129 yX1_moveCover, Cond.instanceMethod yX1_moveCover, Cond.selects RX1 yX1_moveCover yX1_moveCover, Cond.code yX1_moveCover cX1_moveCover 6 none, Cond.methodLink RL 66 yX2_giveUp, Cond.instanceMethod yX2_giveUp, Cond.selects RX2 yX2_giveUp yX2_giveUp, Cond.code yX2_giveUp cX2_giveUp 3 (some .int), Cond.fieldLink RX2 133 "CoverMeter$State" "statuses" "[I", Cond.methodLink RX2 136 yX1_dropBids, Cond.methodLink RL 85 yL_any, Cond.static yL_any, Cond.code yL_any cL_any 3 (some .int)]
def wsL_turn : List Cond := .code yL_turn cL_turn 6 (some .int) :: ((wsL_turn_r1 ++ (wsL_turn_r2 ++ (wsL_turn_r3 ++ (wsL_turn_r4 ++ (wsL_turn_r5 ++ (wsL_turn_r6 ++ (wsL_turn_r7 ++ (wsL_turn_r8 ++ wsL_turn_r9)))))))) ++ wsX20 ++ wsX10 ++ (vx_atS RX2 53 "java/lang/IllegalArgumentException" ["java/lang/RuntimeException", "java/lang/Exception"]).filter goodWord ++ (vx_atS RX2 232 "java/lang/IllegalStateException" ["java/lang/RuntimeException", "java/lang/Exception"]).filter goodWord ++ (vx_atS RX2 220 "java/lang/IndexOutOfBoundsException" ["java/lang/RuntimeException", "java/lang/Exception"]).filter goodWord)
def wsL_tries_r1 : List Cond := [Cond.classLink RL 93 "java/lang/IndexOutOfBoundsException", Cond.classLink RL 96 "java/lang/IllegalArgumentException", Cond.classLink RL 98 "java/lang/IllegalStateException", Cond.constant RL 95 (-1000000000), Cond.methodLink RL 89 yL_turn, Cond.static yL_turn, Cond.initialized RL, Cond.code yL_turn cL_turn 6 (some .int), Cond.methodLink RL 69 yL_up, Cond.static yL_up, Cond.code yL_up cL_up 2 (some .int), Cond.constant RL 8 (2147483647), Cond.methodLink RL 42 yX2_set, Cond.instanceMethod yX2_set, Cond.selects RX2 yX2_set yX2_set, Cond.initialized RX2, Cond.code yX2_set cX2_set 4 (some .int), Cond.fieldLink RX2 34 "CoverMeter" "LOWEST_SETTING" "[I", Cond.fieldLink RX2 38 "CoverMeter" "GREATEST_SETTING" "[I", Cond.fieldLink RX2 12 "CoverMeter" "now" "LCoverMeter$State;", Cond.fieldLink RX2 44 "CoverMeter$State" "settings" "[I", Cond.methodLink RX2 30 yX2_needInRange, Cond.static yX2_needInRange, Cond.code yX2_needInRange cX2_needInRange 3 none]
def wsL_tries_r2 : List Cond := [Cond.classLink RX2 49 "java/lang/IllegalArgumentException", Cond.initialized "java/lang/IllegalArgumentException", Cond.methodLink RX2 41 yX2_save, Cond.instanceMethod yX2_save, Cond.selects RX2 yX2_save yX2_save, Cond.code yX2_save cX2_save 1 none, Cond.fieldLink RX2 196 "CoverMeter" "savedStates" "I", Cond.fieldLink RX2 19 "CoverMeter" "saved" "[LCoverMeter$State;", Cond.methodLink RX2 233 yX2_dropOldest, Cond.instanceMethod yX2_dropOldest, Cond.selects RX2 yX2_dropOldest yX2_dropOldest, Cond.code yX2_dropOldest cX2_dropOldest 3 none, Cond.methodLink RX2 152 yX1_copyFrom, Cond.instanceMethod yX1_copyFrom, Cond.selects RX1 yX1_copyFrom yX1_copyFrom, Cond.initialized RX1, Cond.code yX1_copyFrom cX1_copyFrom 2 none, Cond.fieldLink RX1 9 "CoverMeter$State" "settings" "[I", Cond.methodLink RX1 52 arraycopyName, Cond.native arraycopyName, Cond.static arraycopyName, Cond.initialized "java/lang/System", Cond.fieldLink RX1 58 "CoverMeter$State" "handedOver" "I", Cond.fieldLink RX1 62 "CoverMeter$State" "persons" "I"]
def wsL_tries_r3 : List Cond := [Cond.fieldLink RX1 15 "CoverMeter$State" "rosters" "[J", Cond.fieldLink RX1 19 "CoverMeter$State" "away" "[J", Cond.fieldLink RX1 22 "CoverMeter$State" "covering" "[J", Cond.fieldLink RX1 25 "CoverMeter$State" "meters" "[I", Cond.fieldLink RX1 28 "CoverMeter$State" "turns" "[I", Cond.fieldLink RX1 65 "CoverMeter$State" "absences" "I", Cond.fieldLink RX1 31 "CoverMeter$State" "absentees" "[I", Cond.fieldLink RX1 34 "CoverMeter$State" "shifts" "[I", Cond.fieldLink RX1 37 "CoverMeter$State" "statuses" "[I", Cond.fieldLink RX1 40 "CoverMeter$State" "coverers" "[I", Cond.fieldLink RX1 43 "CoverMeter$State" "points" "[I", Cond.fieldLink RX1 46 "CoverMeter$State" "bids" "[I", Cond.methodLink RL 74 yL_some, Cond.static yL_some, Cond.code yL_some cL_some 2 (some .long), Cond.constantLong RL 9 (65535), Cond.constantLong RL 11 (65537), Cond.constantLong RL 13 (4398046511103), Cond.methodLink RL 45 yX2_addPerson, Cond.instanceMethod yX2_addPerson, Cond.selects RX2 yX2_addPerson yX2_addPerson, Cond.code yX2_addPerson cX2_addPerson 3 (some .int), Cond.constantLong RX2 47 (4398046511103), Cond.fieldLink RX2 56 "CoverMeter$State" "persons" "I"]
def wsL_tries_r4 : List Cond := [Cond.methodLink RX2 60 yX2_needAllowed, Cond.static yX2_needAllowed, Cond.code yX2_needAllowed cX2_needAllowed 1 none, Cond.classLink RX2 228 "java/lang/IllegalStateException", Cond.initialized "java/lang/IllegalStateException", Cond.methodLink RX2 64 yX1_enterPerson, Cond.instanceMethod yX1_enterPerson, Cond.selects RX1 yX1_enterPerson yX1_enterPerson, Cond.code yX1_enterPerson cX1_enterPerson 4 (some .int), Cond.methodLink RL 49 yX2_roster, Cond.instanceMethod yX2_roster, Cond.selects RX2 yX2_roster yX2_roster, Cond.code yX2_roster cX2_roster 4 (some .int), Cond.fieldLink RX2 76 "CoverMeter$State" "rosters" "[J", Cond.methodLink RX2 68 yX2_needPerson, Cond.instanceMethod yX2_needPerson, Cond.selects RX2 yX2_needPerson yX2_needPerson, Cond.code yX2_needPerson cX2_needPerson 2 none, Cond.classLink RX2 216 "java/lang/IndexOutOfBoundsException", Cond.initialized "java/lang/IndexOutOfBoundsException", Cond.methodLink RX2 213 yX1_hasPerson, Cond.instanceMethod yX1_hasPerson, Cond.selects RX1 yX1_hasPerson yX1_hasPerson, Cond.code yX1_hasPerson cX1_hasPerson 2 (some .boolean)]
def wsL_tries_r5 : List Cond := [Cond.methodLink RX2 72 yX1_canChangeRoster, Cond.instanceMethod yX1_canChangeRoster, Cond.selects RX1 yX1_canChangeRoster yX1_canChangeRoster, Cond.code yX1_canChangeRoster cX1_canChangeRoster 7 (some .boolean), Cond.methodLink RX2 80 yJ13_bitCount_95d88, Cond.static yJ13_bitCount_95d88, Cond.initialized RJ13, Cond.code yJ13_bitCount_95d88 cJ13_bitCount_95d88 2 (some .int), Cond.constantLong RJ13 314 (6148914691236517205), Cond.constantLong RJ13 316 (3689348814741910323), Cond.constantLong RJ13 318 (1085102592571150095), Cond.methodLink RL 53 yX2_absent, Cond.instanceMethod yX2_absent, Cond.selects RX2 yX2_absent yX2_absent, Cond.code yX2_absent cX2_absent 3 (some .int), Cond.methodLink RX2 85 yX1_canBeAbsent, Cond.instanceMethod yX1_canBeAbsent, Cond.selects RX1 yX1_canBeAbsent yX1_canBeAbsent, Cond.code yX1_canBeAbsent cX1_canBeAbsent 5 (some .boolean), Cond.constantLong RX1 68 (-1), Cond.methodLink RX2 89 yX1_enterAbsence, Cond.instanceMethod yX1_enterAbsence, Cond.selects RX1 yX1_enterAbsence yX1_enterAbsence, Cond.code yX1_enterAbsence cX1_enterAbsence 4 (some .int)]
def wsL_tries_r6 : List Cond := [Cond.methodLink RX1 70 yX1_dropBids, Cond.instanceMethod yX1_dropBids, Cond.selects RX1 yX1_dropBids yX1_dropBids, Cond.code yX1_dropBids cX1_dropBids 3 none, Cond.static yX2_bidIndex, Cond.code yX2_bidIndex cX2_bidIndex 2 (some .int), Cond.methodLink RL 56 yX2_bid, Cond.instanceMethod yX2_bid, Cond.selects RX2 yX2_bid yX2_bid, Cond.code yX2_bid cX2_bid 4 (some .int), Cond.fieldLink RX2 99 "CoverMeter$State" "bids" "[I", Cond.methodLink RX2 93 yX2_needAbsence, Cond.instanceMethod yX2_needAbsence, Cond.selects RX2 yX2_needAbsence yX2_needAbsence, Cond.code yX2_needAbsence cX2_needAbsence 2 none, Cond.methodLink RX2 221 yX1_hasAbsence, Cond.instanceMethod yX1_hasAbsence, Cond.selects RX1 yX1_hasAbsence yX1_hasAbsence, Cond.code yX1_hasAbsence cX1_hasAbsence 2 (some .boolean), Cond.methodLink RX2 96 yX1_canBid, Cond.instanceMethod yX1_canBid, Cond.selects RX1 yX1_canBid yX1_canBid, Cond.code yX1_canBid cX1_canBid 3 (some .boolean), Cond.methodLink RX2 102 yX2_bidIndex]
def wsL_tries_r7 : List Cond := [Cond.methodLink RX2 105 yX1_bidsFor, Cond.instanceMethod yX1_bidsFor, Cond.selects RX1 yX1_bidsFor yX1_bidsFor, Cond.code yX1_bidsFor cX1_bidsFor 4 (some .int), Cond.methodLink RL 78 yX2_takeBack, Cond.instanceMethod yX2_takeBack, Cond.selects RX2 yX2_takeBack yX2_takeBack, Cond.code yX2_takeBack cX2_takeBack 5 (some .int), Cond.methodLink RL 60 yX2_cover, Cond.instanceMethod yX2_cover, Cond.selects RX2 yX2_cover yX2_cover, Cond.code yX2_cover cX2_cover 2 (some .int), Cond.fieldLink RX2 116 "CoverMeter$State" "coverers" "[I", Cond.methodLink RX2 109 yX1_nextCoverer, Cond.instanceMethod yX1_nextCoverer, Cond.selects RX1 yX1_nextCoverer yX1_nextCoverer, Cond.code yX1_nextCoverer cX1_nextCoverer 4 (some .int), Cond.methodLink RX1 91 yX1_hindrance, Cond.instanceMethod yX1_hindrance, Cond.selects RX1 yX1_hindrance yX1_hindrance, Cond.code yX1_hindrance cX1_hindrance 7 (some .int), Cond.methodLink RX1 78 yX1_worked, Cond.instanceMethod yX1_worked, Cond.selects RX1 yX1_worked yX1_worked]
def wsL_tries_r8 : List Cond := [Cond.code yX1_worked cX1_worked 2 (some .long), Cond.methodLink RX1 84 yX1_restBehind, Cond.instanceMethod yX1_restBehind, Cond.selects RX1 yX1_restBehind yX1_restBehind, Cond.code yX1_restBehind cX1_restBehind 6 (some .long), Cond.methodLink RX1 88 yX1_restBefore, Cond.instanceMethod yX1_restBefore, Cond.selects RX1 yX1_restBefore yX1_restBefore, Cond.code yX1_restBefore cX1_restBefore 6 (some .long), Cond.methodLink RX1 94 yX1_comesBefore, Cond.instanceMethod yX1_comesBefore, Cond.selects RX1 yX1_comesBefore yX1_comesBefore, Cond.code yX1_comesBefore cX1_comesBefore 6 (some .boolean), Cond.methodLink RX1 98 yX1_isLess, Cond.static yX1_isLess, Cond.code yX1_isLess cX1_isLess 4 (some .boolean), Cond.methodLink RX2 112 yX1_coverOpen, Cond.instanceMethod yX1_coverOpen, Cond.selects RX1 yX1_coverOpen yX1_coverOpen, Cond.code yX1_coverOpen cX1_coverOpen 4 (some .boolean), Cond.methodLink RX1 102 yX1_nextCoverer, Cond.methodLink RL 81 yX2_coverAll, Cond.instanceMethod yX2_coverAll, Cond.selects RX2 yX2_coverAll yX2_coverAll]
def wsL_tries_r9 : List Cond := [Cond.code yX2_coverAll cX2_coverAll 1 (some .int), Cond.methodLink RX2 119 yX1_coverAllOpen, Cond.instanceMethod yX1_coverAllOpen, Cond.selects RX1 yX1_coverAllOpen yX1_coverAllOpen, Cond.code yX1_coverAllOpen cX1_coverAllOpen 3 (some .int), Cond.methodLink RX1 106 yX1_coverOpen, Cond.methodLink RL 63 yX2_handOver, Cond.instanceMethod yX2_handOver, Cond.selects RX2 yX2_handOver yX2_handOver, Cond.code yX2_handOver cX2_handOver 4 (some .int), Cond.methodLink RX2 123 yX1_isCovered, Cond.instanceMethod yX1_isCovered, Cond.selects RX1 yX1_isCovered yX1_isCovered, Cond.code yX1_isCovered cX1_isCovered 2 (some .boolean), Cond.methodLink RX2 126 yX1_hindrance, Cond.methodLink RX2 129 yX1_moveCover, Cond.instanceMethod yX1_moveCover, Cond.selects RX1 yX1_moveCover yX1_moveCover, Cond.code yX1_moveCover cX1_moveCover 6 none, Cond.methodLink RL 66 yX2_giveUp, Cond.instanceMethod yX2_giveUp, Cond.selects RX2 yX2_giveUp yX2_giveUp, Cond.code yX2_giveUp cX2_giveUp 3 (some .int), Cond.fieldLink RX2 133 "CoverMeter$State" "statuses" "[I"]
def wsL_tries_r10 : List Cond := [Cond.methodLink RX2 136 yX1_dropBids, Cond.methodLink RL 85 yL_any, Cond.static yL_any, Cond.code yL_any cL_any 3 (some .int)]
def wsL_tries : List Cond := .codeWith yL_tries cL_tries 5 (some .int) [(0, 7, 8, 93), (0, 7, 13, 96), (0, 7, 18, 98)] :: ((wsL_tries_r1 ++ (wsL_tries_r2 ++ (wsL_tries_r3 ++ (wsL_tries_r4 ++ (wsL_tries_r5 ++ (wsL_tries_r6 ++ (wsL_tries_r7 ++ (wsL_tries_r8 ++ (wsL_tries_r9 ++ wsL_tries_r10))))))))) ++ wsX20 ++ wsX10 ++ (vx_atS RX2 53 "java/lang/IllegalArgumentException" ["java/lang/RuntimeException", "java/lang/Exception"]).filter goodWord ++ (vx_atS RX2 232 "java/lang/IllegalStateException" ["java/lang/RuntimeException", "java/lang/Exception"]).filter goodWord ++ (vx_atS RX2 220 "java/lang/IndexOutOfBoundsException" ["java/lang/RuntimeException", "java/lang/Exception"]).filter goodWord)
def wsL_isAbsenceRight_r1 : List Cond := [Cond.methodLink RL 36 yX2_absence, Cond.instanceMethod yX2_absence, Cond.selects RX2 yX2_absence yX2_absence, Cond.initialized RX2, Cond.code yX2_absence cX2_absence 3 (some .int), Cond.fieldLink RX2 12 "CoverMeter" "now" "LCoverMeter$State;", Cond.methodLink RX2 93 yX2_needAbsence, Cond.instanceMethod yX2_needAbsence, Cond.selects RX2 yX2_needAbsence yX2_needAbsence, Cond.code yX2_needAbsence cX2_needAbsence 2 none, Cond.classLink RX2 216 "java/lang/IndexOutOfBoundsException", Cond.initialized "java/lang/IndexOutOfBoundsException", Cond.methodLink RX2 221 yX1_hasAbsence, Cond.instanceMethod yX1_hasAbsence, Cond.selects RX1 yX1_hasAbsence yX1_hasAbsence, Cond.initialized RX1, Cond.code yX1_hasAbsence cX1_hasAbsence 2 (some .boolean), Cond.fieldLink RX1 65 "CoverMeter$State" "absences" "I", Cond.methodLink RX2 30 yX2_needInRange, Cond.static yX2_needInRange, Cond.code yX2_needInRange cX2_needInRange 3 none, Cond.classLink RX2 49 "java/lang/IllegalArgumentException", Cond.initialized "java/lang/IllegalArgumentException", Cond.methodLink RX2 146 yX1_aboutAbsence]
def wsL_isAbsenceRight_r2 : List Cond := [Cond.instanceMethod yX1_aboutAbsence, Cond.selects RX1 yX1_aboutAbsence yX1_aboutAbsence, Cond.code yX1_aboutAbsence cX1_aboutAbsence 3 (some .int), Cond.fieldLink RX1 31 "CoverMeter$State" "absentees" "[I", Cond.fieldLink RX1 34 "CoverMeter$State" "shifts" "[I", Cond.fieldLink RX1 37 "CoverMeter$State" "statuses" "[I", Cond.fieldLink RX1 40 "CoverMeter$State" "coverers" "[I", Cond.fieldLink RX1 43 "CoverMeter$State" "points" "[I", Cond.methodLink RX1 119 yX1_bidsFor, Cond.instanceMethod yX1_bidsFor, Cond.selects RX1 yX1_bidsFor yX1_bidsFor, Cond.code yX1_bidsFor cX1_bidsFor 4 (some .int), Cond.fieldLink RX1 62 "CoverMeter$State" "persons" "I", Cond.fieldLink RX1 46 "CoverMeter$State" "bids" "[I", Cond.static yX2_bidIndex, Cond.code yX2_bidIndex cX2_bidIndex 2 (some .int), Cond.methodLink RX1 122 yX1_personsWhoCanCover, Cond.instanceMethod yX1_personsWhoCanCover, Cond.selects RX1 yX1_personsWhoCanCover yX1_personsWhoCanCover, Cond.code yX1_personsWhoCanCover cX1_personsWhoCanCover 4 (some .int), Cond.methodLink RX1 91 yX1_hindrance, Cond.instanceMethod yX1_hindrance, Cond.selects RX1 yX1_hindrance yX1_hindrance, Cond.code yX1_hindrance cX1_hindrance 7 (some .int)]
def wsL_isAbsenceRight_r3 : List Cond := [Cond.fieldLink RX1 19 "CoverMeter$State" "away" "[J", Cond.methodLink RX1 78 yX1_worked, Cond.instanceMethod yX1_worked, Cond.selects RX1 yX1_worked yX1_worked, Cond.code yX1_worked cX1_worked 2 (some .long), Cond.fieldLink RX1 15 "CoverMeter$State" "rosters" "[J", Cond.constantLong RX1 68 (-1), Cond.fieldLink RX1 22 "CoverMeter$State" "covering" "[J", Cond.methodLink RX1 84 yX1_restBehind, Cond.instanceMethod yX1_restBehind, Cond.selects RX1 yX1_restBehind yX1_restBehind, Cond.code yX1_restBehind cX1_restBehind 6 (some .long), Cond.fieldLink RX1 9 "CoverMeter$State" "settings" "[I", Cond.methodLink RX1 88 yX1_restBefore, Cond.instanceMethod yX1_restBefore, Cond.selects RX1 yX1_restBefore yX1_restBefore, Cond.code yX1_restBefore cX1_restBefore 6 (some .long), Cond.methodLink RL 32 yX2_work, Cond.instanceMethod yX2_work, Cond.selects RX2 yX2_work yX2_work, Cond.code yX2_work cX2_work 2 (some .long), Cond.methodLink RX2 68 yX2_needPerson, Cond.instanceMethod yX2_needPerson, Cond.selects RX2 yX2_needPerson yX2_needPerson]
def wsL_isAbsenceRight_r4 : List Cond := [Cond.code yX2_needPerson cX2_needPerson 2 none, Cond.methodLink RX2 213 yX1_hasPerson, Cond.instanceMethod yX1_hasPerson, Cond.selects RX1 yX1_hasPerson yX1_hasPerson, Cond.code yX1_hasPerson cX1_hasPerson 2 (some .boolean), Cond.methodLink RX2 142 yX1_worked]
def wsL_isAbsenceRight : List Cond := .code yL_isAbsenceRight cL_isAbsenceRight 7 (some .boolean) :: ((wsL_isAbsenceRight_r1 ++ (wsL_isAbsenceRight_r2 ++ (wsL_isAbsenceRight_r3 ++ wsL_isAbsenceRight_r4))) ++ wsX20 ++ wsX10 ++ (vx_atS RX2 220 "java/lang/IndexOutOfBoundsException" ["java/lang/RuntimeException", "java/lang/Exception"]).filter goodWord ++ (vx_atS RX2 53 "java/lang/IllegalArgumentException" ["java/lang/RuntimeException", "java/lang/Exception"]).filter goodWord)
def wsL_ones : List Cond := .code yL_ones cL_ones 4 (some .int) :: ([])
def wsL_areRight_r1 : List Cond := [Cond.methodLink RL 19 yX2_value, Cond.instanceMethod yX2_value, Cond.selects RX2 yX2_value yX2_value, Cond.initialized RX2, Cond.code yX2_value cX2_value 2 (some .int), Cond.fieldLink RX2 12 "CoverMeter" "now" "LCoverMeter$State;", Cond.methodLink RX2 30 yX2_needInRange, Cond.static yX2_needInRange, Cond.code yX2_needInRange cX2_needInRange 3 none, Cond.classLink RX2 49 "java/lang/IllegalArgumentException", Cond.initialized "java/lang/IllegalArgumentException", Cond.methodLink RX2 149 yX1_aboutAll, Cond.instanceMethod yX1_aboutAll, Cond.selects RX1 yX1_aboutAll yX1_aboutAll, Cond.initialized RX1, Cond.code yX1_aboutAll cX1_aboutAll 2 (some .int), Cond.fieldLink RX1 62 "CoverMeter$State" "persons" "I", Cond.fieldLink RX1 65 "CoverMeter$State" "absences" "I", Cond.fieldLink RX1 58 "CoverMeter$State" "handedOver" "I", Cond.methodLink RX1 125 yX1_countOf, Cond.instanceMethod yX1_countOf, Cond.selects RX1 yX1_countOf yX1_countOf, Cond.code yX1_countOf cX1_countOf 4 (some .int), Cond.fieldLink RX1 37 "CoverMeter$State" "statuses" "[I"]
def wsL_areRight_r2 : List Cond := [Cond.methodLink RX1 128 yX1_greatestMeter, Cond.instanceMethod yX1_greatestMeter, Cond.selects RX1 yX1_greatestMeter yX1_greatestMeter, Cond.code yX1_greatestMeter cX1_greatestMeter 3 (some .int), Cond.fieldLink RX1 25 "CoverMeter$State" "meters" "[I", Cond.methodLink RX1 141 Lib.Math.max.name, Cond.static Lib.Math.max.name, Cond.initialized "java/lang/Math", Cond.code Lib.Math.max.name Lib.Math.max.code 2 (some .int), Cond.methodLink RX1 132 yX1_lowestMeter, Cond.instanceMethod yX1_lowestMeter, Cond.selects RX1 yX1_lowestMeter yX1_lowestMeter, Cond.code yX1_lowestMeter cX1_lowestMeter 3 (some .int), Cond.methodLink RX1 146 Lib.Math.min.name, Cond.static Lib.Math.min.name, Cond.code Lib.Math.min.name Lib.Math.min.code 2 (some .int), Cond.methodLink RX1 135 yX1_allBids, Cond.instanceMethod yX1_allBids, Cond.selects RX1 yX1_allBids yX1_allBids, Cond.code yX1_allBids cX1_allBids 3 (some .int), Cond.methodLink RX1 119 yX1_bidsFor, Cond.instanceMethod yX1_bidsFor, Cond.selects RX1 yX1_bidsFor yX1_bidsFor, Cond.code yX1_bidsFor cX1_bidsFor 4 (some .int)]
def wsL_areRight_r3 : List Cond := [Cond.fieldLink RX1 46 "CoverMeter$State" "bids" "[I", Cond.static yX2_bidIndex, Cond.code yX2_bidIndex cX2_bidIndex 2 (some .int), Cond.methodLink RX1 138 yX1_allPoints, Cond.instanceMethod yX1_allPoints, Cond.selects RX1 yX1_allPoints yX1_allPoints, Cond.code yX1_allPoints cX1_allPoints 3 (some .int), Cond.fieldLink RX1 43 "CoverMeter$State" "points" "[I", Cond.methodLink RL 28 yX2_person, Cond.instanceMethod yX2_person, Cond.selects RX2 yX2_person yX2_person, Cond.code yX2_person cX2_person 3 (some .int), Cond.methodLink RX2 68 yX2_needPerson, Cond.instanceMethod yX2_needPerson, Cond.selects RX2 yX2_needPerson yX2_needPerson, Cond.code yX2_needPerson cX2_needPerson 2 none, Cond.classLink RX2 216 "java/lang/IndexOutOfBoundsException", Cond.initialized "java/lang/IndexOutOfBoundsException", Cond.methodLink RX2 213 yX1_hasPerson, Cond.instanceMethod yX1_hasPerson, Cond.selects RX1 yX1_hasPerson yX1_hasPerson, Cond.code yX1_hasPerson cX1_hasPerson 2 (some .boolean), Cond.methodLink RX2 139 yX1_aboutPerson, Cond.instanceMethod yX1_aboutPerson]
def wsL_areRight_r4 : List Cond := [Cond.selects RX1 yX1_aboutPerson yX1_aboutPerson, Cond.code yX1_aboutPerson cX1_aboutPerson 3 (some .int), Cond.fieldLink RX1 15 "CoverMeter$State" "rosters" "[J", Cond.fieldLink RX1 19 "CoverMeter$State" "away" "[J", Cond.fieldLink RX1 22 "CoverMeter$State" "covering" "[J", Cond.fieldLink RX1 28 "CoverMeter$State" "turns" "[I", Cond.methodLink RX1 110 yJ13_bitCount_95d88, Cond.static yJ13_bitCount_95d88, Cond.initialized RJ13, Cond.code yJ13_bitCount_95d88 cJ13_bitCount_95d88 2 (some .int), Cond.constantLong RJ13 314 (6148914691236517205), Cond.constantLong RJ13 316 (3689348814741910323), Cond.constantLong RJ13 318 (1085102592571150095), Cond.methodLink RX1 78 yX1_worked, Cond.instanceMethod yX1_worked, Cond.selects RX1 yX1_worked yX1_worked, Cond.code yX1_worked cX1_worked 2 (some .long), Cond.constantLong RX1 68 (-1), Cond.methodLink RX1 116 yX1_bidsBy, Cond.instanceMethod yX1_bidsBy, Cond.selects RX1 yX1_bidsBy yX1_bidsBy, Cond.code yX1_bidsBy cX1_bidsBy 4 (some .int), Cond.methodLink RL 32 yX2_work, Cond.instanceMethod yX2_work]
def wsL_areRight_r5 : List Cond := [Cond.selects RX2 yX2_work yX2_work, Cond.code yX2_work cX2_work 2 (some .long), Cond.methodLink RX2 142 yX1_worked, Cond.methodLink RL 100 yL_ones, Cond.static yL_ones, Cond.initialized RL, Cond.code yL_ones cL_ones 4 (some .int), Cond.methodLink RL 103 yL_isAbsenceRight, Cond.static yL_isAbsenceRight, Cond.code yL_isAbsenceRight cL_isAbsenceRight 7 (some .boolean), Cond.methodLink RL 36 yX2_absence, Cond.instanceMethod yX2_absence, Cond.selects RX2 yX2_absence yX2_absence, Cond.code yX2_absence cX2_absence 3 (some .int), Cond.methodLink RX2 93 yX2_needAbsence, Cond.instanceMethod yX2_needAbsence, Cond.selects RX2 yX2_needAbsence yX2_needAbsence, Cond.code yX2_needAbsence cX2_needAbsence 2 none, Cond.methodLink RX2 221 yX1_hasAbsence, Cond.instanceMethod yX1_hasAbsence, Cond.selects RX1 yX1_hasAbsence yX1_hasAbsence, Cond.code yX1_hasAbsence cX1_hasAbsence 2 (some .boolean), Cond.methodLink RX2 146 yX1_aboutAbsence, Cond.instanceMethod yX1_aboutAbsence]
def wsL_areRight_r6 : List Cond := [Cond.selects RX1 yX1_aboutAbsence yX1_aboutAbsence, Cond.code yX1_aboutAbsence cX1_aboutAbsence 3 (some .int), Cond.fieldLink RX1 31 "CoverMeter$State" "absentees" "[I", Cond.fieldLink RX1 34 "CoverMeter$State" "shifts" "[I", Cond.fieldLink RX1 40 "CoverMeter$State" "coverers" "[I", Cond.methodLink RX1 122 yX1_personsWhoCanCover, Cond.instanceMethod yX1_personsWhoCanCover, Cond.selects RX1 yX1_personsWhoCanCover yX1_personsWhoCanCover, Cond.code yX1_personsWhoCanCover cX1_personsWhoCanCover 4 (some .int), Cond.methodLink RX1 91 yX1_hindrance, Cond.instanceMethod yX1_hindrance, Cond.selects RX1 yX1_hindrance yX1_hindrance, Cond.code yX1_hindrance cX1_hindrance 7 (some .int), Cond.methodLink RX1 84 yX1_restBehind, Cond.instanceMethod yX1_restBehind, Cond.selects RX1 yX1_restBehind yX1_restBehind, Cond.code yX1_restBehind cX1_restBehind 6 (some .long), Cond.fieldLink RX1 9 "CoverMeter$State" "settings" "[I", Cond.methodLink RX1 88 yX1_restBefore, Cond.instanceMethod yX1_restBefore, Cond.selects RX1 yX1_restBefore yX1_restBefore, Cond.code yX1_restBefore cX1_restBefore 6 (some .long)]
def wsL_areRight : List Cond := .code yL_areRight cL_areRight 7 (some .boolean) :: ((wsL_areRight_r1 ++ (wsL_areRight_r2 ++ (wsL_areRight_r3 ++ (wsL_areRight_r4 ++ (wsL_areRight_r5 ++ wsL_areRight_r6))))) ++ wsX20 ++ wsX10 ++ (vx_atS RX2 53 "java/lang/IllegalArgumentException" ["java/lang/RuntimeException", "java/lang/Exception"]).filter goodWord ++ (vx_atS RX2 220 "java/lang/IndexOutOfBoundsException" ["java/lang/RuntimeException", "java/lang/Exception"]).filter goodWord)
def wsL_isUndone_r1 : List Cond := [Cond.methodLink RL 107 yL_view, Cond.static yL_view, Cond.initialized RL, Cond.code yL_view cL_view 5 (some .long), Cond.constantLong RL 15 (7), Cond.constantLong RL 17 (31), Cond.methodLink RL 19 yX2_value, Cond.instanceMethod yX2_value, Cond.selects RX2 yX2_value yX2_value, Cond.initialized RX2, Cond.code yX2_value cX2_value 2 (some .int), Cond.fieldLink RX2 12 "CoverMeter" "now" "LCoverMeter$State;", Cond.methodLink RX2 30 yX2_needInRange, Cond.static yX2_needInRange, Cond.code yX2_needInRange cX2_needInRange 3 none, Cond.classLink RX2 49 "java/lang/IllegalArgumentException", Cond.initialized "java/lang/IllegalArgumentException", Cond.methodLink RX2 149 yX1_aboutAll, Cond.instanceMethod yX1_aboutAll, Cond.selects RX1 yX1_aboutAll yX1_aboutAll, Cond.initialized RX1, Cond.code yX1_aboutAll cX1_aboutAll 2 (some .int), Cond.fieldLink RX1 62 "CoverMeter$State" "persons" "I", Cond.fieldLink RX1 65 "CoverMeter$State" "absences" "I"]
def wsL_isUndone_r2 : List Cond := [Cond.fieldLink RX1 58 "CoverMeter$State" "handedOver" "I", Cond.methodLink RX1 125 yX1_countOf, Cond.instanceMethod yX1_countOf, Cond.selects RX1 yX1_countOf yX1_countOf, Cond.code yX1_countOf cX1_countOf 4 (some .int), Cond.fieldLink RX1 37 "CoverMeter$State" "statuses" "[I", Cond.methodLink RX1 128 yX1_greatestMeter, Cond.instanceMethod yX1_greatestMeter, Cond.selects RX1 yX1_greatestMeter yX1_greatestMeter, Cond.code yX1_greatestMeter cX1_greatestMeter 3 (some .int), Cond.fieldLink RX1 25 "CoverMeter$State" "meters" "[I", Cond.methodLink RX1 141 Lib.Math.max.name, Cond.static Lib.Math.max.name, Cond.initialized "java/lang/Math", Cond.code Lib.Math.max.name Lib.Math.max.code 2 (some .int), Cond.methodLink RX1 132 yX1_lowestMeter, Cond.instanceMethod yX1_lowestMeter, Cond.selects RX1 yX1_lowestMeter yX1_lowestMeter, Cond.code yX1_lowestMeter cX1_lowestMeter 3 (some .int), Cond.methodLink RX1 146 Lib.Math.min.name, Cond.static Lib.Math.min.name, Cond.code Lib.Math.min.name Lib.Math.min.code 2 (some .int), Cond.methodLink RX1 135 yX1_allBids, Cond.instanceMethod yX1_allBids]
def wsL_isUndone_r3 : List Cond := [Cond.selects RX1 yX1_allBids yX1_allBids, Cond.code yX1_allBids cX1_allBids 3 (some .int), Cond.methodLink RX1 119 yX1_bidsFor, Cond.instanceMethod yX1_bidsFor, Cond.selects RX1 yX1_bidsFor yX1_bidsFor, Cond.code yX1_bidsFor cX1_bidsFor 4 (some .int), Cond.fieldLink RX1 46 "CoverMeter$State" "bids" "[I", Cond.static yX2_bidIndex, Cond.code yX2_bidIndex cX2_bidIndex 2 (some .int), Cond.methodLink RX1 138 yX1_allPoints, Cond.instanceMethod yX1_allPoints, Cond.selects RX1 yX1_allPoints yX1_allPoints, Cond.code yX1_allPoints cX1_allPoints 3 (some .int), Cond.fieldLink RX1 43 "CoverMeter$State" "points" "[I", Cond.methodLink RL 25 yX2_setting, Cond.instanceMethod yX2_setting, Cond.selects RX2 yX2_setting yX2_setting, Cond.code yX2_setting cX2_setting 2 (some .int), Cond.fieldLink RX2 44 "CoverMeter$State" "settings" "[I", Cond.methodLink RL 28 yX2_person, Cond.instanceMethod yX2_person, Cond.selects RX2 yX2_person yX2_person, Cond.code yX2_person cX2_person 3 (some .int), Cond.methodLink RX2 68 yX2_needPerson]
def wsL_isUndone_r4 : List Cond := [Cond.instanceMethod yX2_needPerson, Cond.selects RX2 yX2_needPerson yX2_needPerson, Cond.code yX2_needPerson cX2_needPerson 2 none, Cond.classLink RX2 216 "java/lang/IndexOutOfBoundsException", Cond.initialized "java/lang/IndexOutOfBoundsException", Cond.methodLink RX2 213 yX1_hasPerson, Cond.instanceMethod yX1_hasPerson, Cond.selects RX1 yX1_hasPerson yX1_hasPerson, Cond.code yX1_hasPerson cX1_hasPerson 2 (some .boolean), Cond.methodLink RX2 139 yX1_aboutPerson, Cond.instanceMethod yX1_aboutPerson, Cond.selects RX1 yX1_aboutPerson yX1_aboutPerson, Cond.code yX1_aboutPerson cX1_aboutPerson 3 (some .int), Cond.fieldLink RX1 15 "CoverMeter$State" "rosters" "[J", Cond.fieldLink RX1 19 "CoverMeter$State" "away" "[J", Cond.fieldLink RX1 22 "CoverMeter$State" "covering" "[J", Cond.fieldLink RX1 28 "CoverMeter$State" "turns" "[I", Cond.methodLink RX1 110 yJ13_bitCount_95d88, Cond.static yJ13_bitCount_95d88, Cond.initialized RJ13, Cond.code yJ13_bitCount_95d88 cJ13_bitCount_95d88 2 (some .int), Cond.constantLong RJ13 314 (6148914691236517205), Cond.constantLong RJ13 316 (3689348814741910323), Cond.constantLong RJ13 318 (1085102592571150095)]
def wsL_isUndone_r5 : List Cond := [Cond.methodLink RX1 78 yX1_worked, Cond.instanceMethod yX1_worked, Cond.selects RX1 yX1_worked yX1_worked, Cond.code yX1_worked cX1_worked 2 (some .long), Cond.constantLong RX1 68 (-1), Cond.methodLink RX1 116 yX1_bidsBy, Cond.instanceMethod yX1_bidsBy, Cond.selects RX1 yX1_bidsBy yX1_bidsBy, Cond.code yX1_bidsBy cX1_bidsBy 4 (some .int), Cond.methodLink RL 32 yX2_work, Cond.instanceMethod yX2_work, Cond.selects RX2 yX2_work yX2_work, Cond.code yX2_work cX2_work 2 (some .long), Cond.methodLink RX2 142 yX1_worked, Cond.methodLink RL 36 yX2_absence, Cond.instanceMethod yX2_absence, Cond.selects RX2 yX2_absence yX2_absence, Cond.code yX2_absence cX2_absence 3 (some .int), Cond.methodLink RX2 93 yX2_needAbsence, Cond.instanceMethod yX2_needAbsence, Cond.selects RX2 yX2_needAbsence yX2_needAbsence, Cond.code yX2_needAbsence cX2_needAbsence 2 none, Cond.methodLink RX2 221 yX1_hasAbsence, Cond.instanceMethod yX1_hasAbsence]
def wsL_isUndone_r6 : List Cond := [Cond.selects RX1 yX1_hasAbsence yX1_hasAbsence, Cond.code yX1_hasAbsence cX1_hasAbsence 2 (some .boolean), Cond.methodLink RX2 146 yX1_aboutAbsence, Cond.instanceMethod yX1_aboutAbsence, Cond.selects RX1 yX1_aboutAbsence yX1_aboutAbsence, Cond.code yX1_aboutAbsence cX1_aboutAbsence 3 (some .int), Cond.fieldLink RX1 31 "CoverMeter$State" "absentees" "[I", Cond.fieldLink RX1 34 "CoverMeter$State" "shifts" "[I", Cond.fieldLink RX1 40 "CoverMeter$State" "coverers" "[I", Cond.methodLink RX1 122 yX1_personsWhoCanCover, Cond.instanceMethod yX1_personsWhoCanCover, Cond.selects RX1 yX1_personsWhoCanCover yX1_personsWhoCanCover, Cond.code yX1_personsWhoCanCover cX1_personsWhoCanCover 4 (some .int), Cond.methodLink RX1 91 yX1_hindrance, Cond.instanceMethod yX1_hindrance, Cond.selects RX1 yX1_hindrance yX1_hindrance, Cond.code yX1_hindrance cX1_hindrance 7 (some .int), Cond.methodLink RX1 84 yX1_restBehind, Cond.instanceMethod yX1_restBehind, Cond.selects RX1 yX1_restBehind yX1_restBehind, Cond.code yX1_restBehind cX1_restBehind 6 (some .long), Cond.fieldLink RX1 9 "CoverMeter$State" "settings" "[I", Cond.methodLink RX1 88 yX1_restBefore, Cond.instanceMethod yX1_restBefore]
def wsL_isUndone_r7 : List Cond := [Cond.selects RX1 yX1_restBefore yX1_restBefore, Cond.code yX1_restBefore cX1_restBefore 6 (some .long), Cond.methodLink RL 39 yX2_bidOf, Cond.instanceMethod yX2_bidOf, Cond.selects RX2 yX2_bidOf yX2_bidOf, Cond.code yX2_bidOf cX2_bidOf 3 (some .int), Cond.fieldLink RX2 99 "CoverMeter$State" "bids" "[I", Cond.methodLink RX2 102 yX2_bidIndex, Cond.methodLink RL 111 yX2_undo, Cond.instanceMethod yX2_undo, Cond.selects RX2 yX2_undo yX2_undo, Cond.code yX2_undo cX2_undo 1 (some .int), Cond.fieldLink RX2 196 "CoverMeter" "savedStates" "I", Cond.fieldLink RX2 19 "CoverMeter" "saved" "[LCoverMeter$State;", Cond.methodLink RX2 60 yX2_needAllowed, Cond.static yX2_needAllowed, Cond.code yX2_needAllowed cX2_needAllowed 1 none, Cond.classLink RX2 228 "java/lang/IllegalStateException", Cond.initialized "java/lang/IllegalStateException", Cond.methodLink RX2 152 yX1_copyFrom, Cond.instanceMethod yX1_copyFrom, Cond.selects RX1 yX1_copyFrom yX1_copyFrom, Cond.code yX1_copyFrom cX1_copyFrom 2 none, Cond.methodLink RX1 52 arraycopyName]
def wsL_isUndone_r8 : List Cond := [Cond.native arraycopyName, Cond.static arraycopyName, Cond.initialized "java/lang/System", Cond.methodLink RL 114 yL_tries, Cond.static yL_tries, Cond.codeWith yL_tries cL_tries 5 (some .int) [(0, 7, 8, 93), (0, 7, 13, 96), (0, 7, 18, 98)], Cond.classLink RL 93 "java/lang/IndexOutOfBoundsException", Cond.classLink RL 96 "java/lang/IllegalArgumentException", Cond.classLink RL 98 "java/lang/IllegalStateException", Cond.constant RL 95 (-1000000000), Cond.methodLink RL 89 yL_turn, Cond.static yL_turn, Cond.code yL_turn cL_turn 6 (some .int), Cond.methodLink RL 69 yL_up, Cond.static yL_up, Cond.code yL_up cL_up 2 (some .int), Cond.constant RL 8 (2147483647), Cond.methodLink RL 42 yX2_set, Cond.instanceMethod yX2_set, Cond.selects RX2 yX2_set yX2_set, Cond.code yX2_set cX2_set 4 (some .int), Cond.fieldLink RX2 34 "CoverMeter" "LOWEST_SETTING" "[I", Cond.fieldLink RX2 38 "CoverMeter" "GREATEST_SETTING" "[I", Cond.methodLink RX2 41 yX2_save]
def wsL_isUndone_r9 : List Cond := [Cond.instanceMethod yX2_save, Cond.selects RX2 yX2_save yX2_save, Cond.code yX2_save cX2_save 1 none, Cond.methodLink RX2 233 yX2_dropOldest, Cond.instanceMethod yX2_dropOldest, Cond.selects RX2 yX2_dropOldest yX2_dropOldest, Cond.code yX2_dropOldest cX2_dropOldest 3 none, Cond.methodLink RL 74 yL_some, Cond.static yL_some, Cond.code yL_some cL_some 2 (some .long), Cond.constantLong RL 9 (65535), Cond.constantLong RL 11 (65537), Cond.constantLong RL 13 (4398046511103), Cond.methodLink RL 45 yX2_addPerson, Cond.instanceMethod yX2_addPerson, Cond.selects RX2 yX2_addPerson yX2_addPerson, Cond.code yX2_addPerson cX2_addPerson 3 (some .int), Cond.constantLong RX2 47 (4398046511103), Cond.fieldLink RX2 56 "CoverMeter$State" "persons" "I", Cond.methodLink RX2 64 yX1_enterPerson, Cond.instanceMethod yX1_enterPerson, Cond.selects RX1 yX1_enterPerson yX1_enterPerson, Cond.code yX1_enterPerson cX1_enterPerson 4 (some .int), Cond.methodLink RL 49 yX2_roster]
def wsL_isUndone_r10 : List Cond := [Cond.instanceMethod yX2_roster, Cond.selects RX2 yX2_roster yX2_roster, Cond.code yX2_roster cX2_roster 4 (some .int), Cond.fieldLink RX2 76 "CoverMeter$State" "rosters" "[J", Cond.methodLink RX2 72 yX1_canChangeRoster, Cond.instanceMethod yX1_canChangeRoster, Cond.selects RX1 yX1_canChangeRoster yX1_canChangeRoster, Cond.code yX1_canChangeRoster cX1_canChangeRoster 7 (some .boolean), Cond.methodLink RX2 80 yJ13_bitCount_95d88, Cond.methodLink RL 53 yX2_absent, Cond.instanceMethod yX2_absent, Cond.selects RX2 yX2_absent yX2_absent, Cond.code yX2_absent cX2_absent 3 (some .int), Cond.methodLink RX2 85 yX1_canBeAbsent, Cond.instanceMethod yX1_canBeAbsent, Cond.selects RX1 yX1_canBeAbsent yX1_canBeAbsent, Cond.code yX1_canBeAbsent cX1_canBeAbsent 5 (some .boolean), Cond.methodLink RX2 89 yX1_enterAbsence, Cond.instanceMethod yX1_enterAbsence, Cond.selects RX1 yX1_enterAbsence yX1_enterAbsence, Cond.code yX1_enterAbsence cX1_enterAbsence 4 (some .int), Cond.methodLink RX1 70 yX1_dropBids, Cond.instanceMethod yX1_dropBids, Cond.selects RX1 yX1_dropBids yX1_dropBids]
def wsL_isUndone_r11 : List Cond := [Cond.code yX1_dropBids cX1_dropBids 3 none, Cond.methodLink RL 56 yX2_bid, Cond.instanceMethod yX2_bid, Cond.selects RX2 yX2_bid yX2_bid, Cond.code yX2_bid cX2_bid 4 (some .int), Cond.methodLink RX2 96 yX1_canBid, Cond.instanceMethod yX1_canBid, Cond.selects RX1 yX1_canBid yX1_canBid, Cond.code yX1_canBid cX1_canBid 3 (some .boolean), Cond.methodLink RX2 105 yX1_bidsFor, Cond.methodLink RL 78 yX2_takeBack, Cond.instanceMethod yX2_takeBack, Cond.selects RX2 yX2_takeBack yX2_takeBack, Cond.code yX2_takeBack cX2_takeBack 5 (some .int), Cond.methodLink RL 60 yX2_cover, Cond.instanceMethod yX2_cover, Cond.selects RX2 yX2_cover yX2_cover, Cond.code yX2_cover cX2_cover 2 (some .int), Cond.fieldLink RX2 116 "CoverMeter$State" "coverers" "[I", Cond.methodLink RX2 109 yX1_nextCoverer, Cond.instanceMethod yX1_nextCoverer, Cond.selects RX1 yX1_nextCoverer yX1_nextCoverer, Cond.code yX1_nextCoverer cX1_nextCoverer 4 (some .int), Cond.methodLink RX1 94 yX1_comesBefore]
def wsL_isUndone_r12 : List Cond := [Cond.instanceMethod yX1_comesBefore, Cond.selects RX1 yX1_comesBefore yX1_comesBefore, Cond.code yX1_comesBefore cX1_comesBefore 6 (some .boolean), Cond.methodLink RX1 98 yX1_isLess, Cond.static yX1_isLess, Cond.code yX1_isLess cX1_isLess 4 (some .boolean), Cond.methodLink RX2 112 yX1_coverOpen, Cond.instanceMethod yX1_coverOpen, Cond.selects RX1 yX1_coverOpen yX1_coverOpen, Cond.code yX1_coverOpen cX1_coverOpen 4 (some .boolean), Cond.methodLink RX1 102 yX1_nextCoverer, Cond.methodLink RL 81 yX2_coverAll, Cond.instanceMethod yX2_coverAll, Cond.selects RX2 yX2_coverAll yX2_coverAll, Cond.code yX2_coverAll cX2_coverAll 1 (some .int), Cond.methodLink RX2 119 yX1_coverAllOpen, Cond.instanceMethod yX1_coverAllOpen, Cond.selects RX1 yX1_coverAllOpen yX1_coverAllOpen, Cond.code yX1_coverAllOpen cX1_coverAllOpen 3 (some .int), Cond.methodLink RX1 106 yX1_coverOpen, Cond.methodLink RL 63 yX2_handOver, Cond.instanceMethod yX2_handOver, Cond.selects RX2 yX2_handOver yX2_handOver, Cond.code yX2_handOver cX2_handOver 4 (some .int)]
def wsL_isUndone_r13 : List Cond := [Cond.methodLink RX2 123 yX1_isCovered, Cond.instanceMethod yX1_isCovered, Cond.selects RX1 yX1_isCovered yX1_isCovered, Cond.code yX1_isCovered cX1_isCovered 2 (some .boolean), Cond.methodLink RX2 126 yX1_hindrance, Cond.methodLink RX2 129 yX1_moveCover, Cond.instanceMethod yX1_moveCover, Cond.selects RX1 yX1_moveCover yX1_moveCover, Cond.code yX1_moveCover cX1_moveCover 6 none, Cond.methodLink RL 66 yX2_giveUp, Cond.instanceMethod yX2_giveUp, Cond.selects RX2 yX2_giveUp yX2_giveUp, Cond.code yX2_giveUp cX2_giveUp 3 (some .int), Cond.fieldLink RX2 133 "CoverMeter$State" "statuses" "[I", Cond.methodLink RX2 136 yX1_dropBids, Cond.methodLink RL 85 yL_any, Cond.static yL_any, Cond.code yL_any cL_any 3 (some .int)]
def wsL_isUndone : List Cond := .code yL_isUndone cL_isUndone 9 (some .boolean) :: ((wsL_isUndone_r1 ++ (wsL_isUndone_r2 ++ (wsL_isUndone_r3 ++ (wsL_isUndone_r4 ++ (wsL_isUndone_r5 ++ (wsL_isUndone_r6 ++ (wsL_isUndone_r7 ++ (wsL_isUndone_r8 ++ (wsL_isUndone_r9 ++ (wsL_isUndone_r10 ++ (wsL_isUndone_r11 ++ (wsL_isUndone_r12 ++ wsL_isUndone_r13)))))))))))) ++ wsX20 ++ wsX10 ++ (vx_atS RX2 53 "java/lang/IllegalArgumentException" ["java/lang/RuntimeException", "java/lang/Exception"]).filter goodWord ++ (vx_atS RX2 220 "java/lang/IndexOutOfBoundsException" ["java/lang/RuntimeException", "java/lang/Exception"]).filter goodWord ++ (vx_atS RX2 232 "java/lang/IllegalStateException" ["java/lang/RuntimeException", "java/lang/Exception"]).filter goodWord)
def wsL_law0_r1 : List Cond := [Cond.classLink RL 20 RX2, Cond.instantiable RX2 5, Cond.initialized RX2, Cond.constant RL 95 (-1000000000), Cond.methodLink RL 117 yX2_init, Cond.instanceMethod yX2_init, Cond.code yX2_init cX2_init 2 none, Cond.methodLink RX2 3 objectInit, Cond.instanceMethod objectInit, Cond.code objectInit ⟨#[0xb1]⟩ 1 none, Cond.classLink RX2 9 RX1, Cond.instantiable RX1 15, Cond.initialized RX1, Cond.fieldLink RX2 12 "CoverMeter" "now" "LCoverMeter$State;", Cond.fieldLink RX2 16 "CoverMeter" "trial" "LCoverMeter$State;", Cond.fieldLink RX2 19 "CoverMeter" "saved" "[LCoverMeter$State;", Cond.classLink RX2 23 RX0, Cond.instantiable RX0 8, Cond.initialized RX0, Cond.fieldLink RX2 26 "CoverMeter" "orders" "LCoverMeter$Orders;", Cond.methodLink RX2 11 yX1_init, Cond.instanceMethod yX1_init, Cond.code yX1_init cX1_init 1 none, Cond.methodLink RX1 3 objectInit]
def wsL_law0_r2 : List Cond := [Cond.arrayClass .int, Cond.fieldLink RX1 9 "CoverMeter$State" "settings" "[I", Cond.arrayClass .long, Cond.fieldLink RX1 15 "CoverMeter$State" "rosters" "[J", Cond.fieldLink RX1 19 "CoverMeter$State" "away" "[J", Cond.fieldLink RX1 22 "CoverMeter$State" "covering" "[J", Cond.fieldLink RX1 25 "CoverMeter$State" "meters" "[I", Cond.fieldLink RX1 28 "CoverMeter$State" "turns" "[I", Cond.fieldLink RX1 31 "CoverMeter$State" "absentees" "[I", Cond.fieldLink RX1 34 "CoverMeter$State" "shifts" "[I", Cond.fieldLink RX1 37 "CoverMeter$State" "statuses" "[I", Cond.fieldLink RX1 40 "CoverMeter$State" "coverers" "[I", Cond.fieldLink RX1 43 "CoverMeter$State" "points" "[I", Cond.fieldLink RX1 46 "CoverMeter$State" "bids" "[I", Cond.methodLink RX1 52 arraycopyName, Cond.native arraycopyName, Cond.static arraycopyName, Cond.initialized "java/lang/System", Cond.instanceMethod yX0_init, Cond.code yX0_init cX0_init 1 none, Cond.methodLink RX0 3 objectInit, Cond.fieldLink RX0 9 "CoverMeter$Orders" "text" "[I", Cond.methodLink RL 118 yL_cell, Cond.static yL_cell]
def wsL_law0_r3 : List Cond := [Cond.initialized RL, Cond.code yL_cell cL_cell 2 (some .int), Cond.constant RL 7 (763049417), Cond.methodLink RL 107 yL_view, Cond.static yL_view, Cond.code yL_view cL_view 5 (some .long), Cond.constantLong RL 15 (7), Cond.constantLong RL 17 (31), Cond.methodLink RL 19 yX2_value, Cond.instanceMethod yX2_value, Cond.selects RX2 yX2_value yX2_value, Cond.code yX2_value cX2_value 2 (some .int), Cond.methodLink RX2 30 yX2_needInRange, Cond.static yX2_needInRange, Cond.code yX2_needInRange cX2_needInRange 3 none, Cond.classLink RX2 49 "java/lang/IllegalArgumentException", Cond.initialized "java/lang/IllegalArgumentException", Cond.methodLink RX2 149 yX1_aboutAll, Cond.instanceMethod yX1_aboutAll, Cond.selects RX1 yX1_aboutAll yX1_aboutAll, Cond.code yX1_aboutAll cX1_aboutAll 2 (some .int), Cond.fieldLink RX1 62 "CoverMeter$State" "persons" "I", Cond.fieldLink RX1 65 "CoverMeter$State" "absences" "I", Cond.fieldLink RX1 58 "CoverMeter$State" "handedOver" "I"]
def wsL_law0_r4 : List Cond := [Cond.methodLink RX1 125 yX1_countOf, Cond.instanceMethod yX1_countOf, Cond.selects RX1 yX1_countOf yX1_countOf, Cond.code yX1_countOf cX1_countOf 4 (some .int), Cond.methodLink RX1 128 yX1_greatestMeter, Cond.instanceMethod yX1_greatestMeter, Cond.selects RX1 yX1_greatestMeter yX1_greatestMeter, Cond.code yX1_greatestMeter cX1_greatestMeter 3 (some .int), Cond.methodLink RX1 141 Lib.Math.max.name, Cond.static Lib.Math.max.name, Cond.initialized "java/lang/Math", Cond.code Lib.Math.max.name Lib.Math.max.code 2 (some .int), Cond.methodLink RX1 132 yX1_lowestMeter, Cond.instanceMethod yX1_lowestMeter, Cond.selects RX1 yX1_lowestMeter yX1_lowestMeter, Cond.code yX1_lowestMeter cX1_lowestMeter 3 (some .int), Cond.methodLink RX1 146 Lib.Math.min.name, Cond.static Lib.Math.min.name, Cond.code Lib.Math.min.name Lib.Math.min.code 2 (some .int), Cond.methodLink RX1 135 yX1_allBids, Cond.instanceMethod yX1_allBids, Cond.selects RX1 yX1_allBids yX1_allBids, Cond.code yX1_allBids cX1_allBids 3 (some .int), Cond.methodLink RX1 119 yX1_bidsFor]
def wsL_law0_r5 : List Cond := [Cond.instanceMethod yX1_bidsFor, Cond.selects RX1 yX1_bidsFor yX1_bidsFor, Cond.code yX1_bidsFor cX1_bidsFor 4 (some .int), Cond.static yX2_bidIndex, Cond.code yX2_bidIndex cX2_bidIndex 2 (some .int), Cond.methodLink RX1 138 yX1_allPoints, Cond.instanceMethod yX1_allPoints, Cond.selects RX1 yX1_allPoints yX1_allPoints, Cond.code yX1_allPoints cX1_allPoints 3 (some .int), Cond.methodLink RL 25 yX2_setting, Cond.instanceMethod yX2_setting, Cond.selects RX2 yX2_setting yX2_setting, Cond.code yX2_setting cX2_setting 2 (some .int), Cond.fieldLink RX2 44 "CoverMeter$State" "settings" "[I", Cond.methodLink RL 28 yX2_person, Cond.instanceMethod yX2_person, Cond.selects RX2 yX2_person yX2_person, Cond.code yX2_person cX2_person 3 (some .int), Cond.methodLink RX2 68 yX2_needPerson, Cond.instanceMethod yX2_needPerson, Cond.selects RX2 yX2_needPerson yX2_needPerson, Cond.code yX2_needPerson cX2_needPerson 2 none, Cond.classLink RX2 216 "java/lang/IndexOutOfBoundsException", Cond.initialized "java/lang/IndexOutOfBoundsException"]
def wsL_law0_r6 : List Cond := [Cond.methodLink RX2 213 yX1_hasPerson, Cond.instanceMethod yX1_hasPerson, Cond.selects RX1 yX1_hasPerson yX1_hasPerson, Cond.code yX1_hasPerson cX1_hasPerson 2 (some .boolean), Cond.methodLink RX2 139 yX1_aboutPerson, Cond.instanceMethod yX1_aboutPerson, Cond.selects RX1 yX1_aboutPerson yX1_aboutPerson, Cond.code yX1_aboutPerson cX1_aboutPerson 3 (some .int), Cond.methodLink RX1 110 yJ13_bitCount_95d88, Cond.static yJ13_bitCount_95d88, Cond.initialized RJ13, Cond.code yJ13_bitCount_95d88 cJ13_bitCount_95d88 2 (some .int), Cond.constantLong RJ13 314 (6148914691236517205), Cond.constantLong RJ13 316 (3689348814741910323), Cond.constantLong RJ13 318 (1085102592571150095), Cond.methodLink RX1 78 yX1_worked, Cond.instanceMethod yX1_worked, Cond.selects RX1 yX1_worked yX1_worked, Cond.code yX1_worked cX1_worked 2 (some .long), Cond.constantLong RX1 68 (-1), Cond.methodLink RX1 116 yX1_bidsBy, Cond.instanceMethod yX1_bidsBy, Cond.selects RX1 yX1_bidsBy yX1_bidsBy, Cond.code yX1_bidsBy cX1_bidsBy 4 (some .int)]
def wsL_law0_r7 : List Cond := [Cond.methodLink RL 32 yX2_work, Cond.instanceMethod yX2_work, Cond.selects RX2 yX2_work yX2_work, Cond.code yX2_work cX2_work 2 (some .long), Cond.methodLink RX2 142 yX1_worked, Cond.methodLink RL 36 yX2_absence, Cond.instanceMethod yX2_absence, Cond.selects RX2 yX2_absence yX2_absence, Cond.code yX2_absence cX2_absence 3 (some .int), Cond.methodLink RX2 93 yX2_needAbsence, Cond.instanceMethod yX2_needAbsence, Cond.selects RX2 yX2_needAbsence yX2_needAbsence, Cond.code yX2_needAbsence cX2_needAbsence 2 none, Cond.methodLink RX2 221 yX1_hasAbsence, Cond.instanceMethod yX1_hasAbsence, Cond.selects RX1 yX1_hasAbsence yX1_hasAbsence, Cond.code yX1_hasAbsence cX1_hasAbsence 2 (some .boolean), Cond.methodLink RX2 146 yX1_aboutAbsence, Cond.instanceMethod yX1_aboutAbsence, Cond.selects RX1 yX1_aboutAbsence yX1_aboutAbsence, Cond.code yX1_aboutAbsence cX1_aboutAbsence 3 (some .int), Cond.methodLink RX1 122 yX1_personsWhoCanCover, Cond.instanceMethod yX1_personsWhoCanCover, Cond.selects RX1 yX1_personsWhoCanCover yX1_personsWhoCanCover]
def wsL_law0_r8 : List Cond := [Cond.code yX1_personsWhoCanCover cX1_personsWhoCanCover 4 (some .int), Cond.methodLink RX1 91 yX1_hindrance, Cond.instanceMethod yX1_hindrance, Cond.selects RX1 yX1_hindrance yX1_hindrance, Cond.code yX1_hindrance cX1_hindrance 7 (some .int), Cond.methodLink RX1 84 yX1_restBehind, Cond.instanceMethod yX1_restBehind, Cond.selects RX1 yX1_restBehind yX1_restBehind, Cond.code yX1_restBehind cX1_restBehind 6 (some .long), Cond.methodLink RX1 88 yX1_restBefore, Cond.instanceMethod yX1_restBefore, Cond.selects RX1 yX1_restBefore yX1_restBefore, Cond.code yX1_restBefore cX1_restBefore 6 (some .long), Cond.methodLink RL 39 yX2_bidOf, Cond.instanceMethod yX2_bidOf, Cond.selects RX2 yX2_bidOf yX2_bidOf, Cond.code yX2_bidOf cX2_bidOf 3 (some .int), Cond.fieldLink RX2 99 "CoverMeter$State" "bids" "[I", Cond.methodLink RX2 102 yX2_bidIndex, Cond.methodLink RL 122 yX2_digest, Cond.instanceMethod yX2_digest, Cond.selects RX2 yX2_digest yX2_digest, Cond.code yX2_digest cX2_digest 4 (some .long), Cond.constantLong RX2 199 (115537)]
def wsL_law0_r9 : List Cond := [Cond.fieldLink RX2 174 "CoverMeter$Orders" "length" "I", Cond.constantLong RX2 201 (31), Cond.fieldLink RX2 56 "CoverMeter$State" "persons" "I", Cond.fieldLink RX2 207 "CoverMeter$State" "absences" "I", Cond.fieldLink RX2 196 "CoverMeter" "savedStates" "I", Cond.methodLink RX2 203 yX2_digestPerson, Cond.instanceMethod yX2_digestPerson, Cond.selects RX2 yX2_digestPerson yX2_digestPerson, Cond.code yX2_digestPerson cX2_digestPerson 7 (some .long), Cond.methodLink RX2 210 yX2_digestAbsence, Cond.instanceMethod yX2_digestAbsence, Cond.selects RX2 yX2_digestAbsence yX2_digestAbsence, Cond.code yX2_digestAbsence cX2_digestAbsence 7 (some .long), Cond.methodLink RL 114 yL_tries, Cond.static yL_tries, Cond.codeWith yL_tries cL_tries 5 (some .int) [(0, 7, 8, 93), (0, 7, 13, 96), (0, 7, 18, 98)], Cond.classLink RL 93 "java/lang/IndexOutOfBoundsException", Cond.classLink RL 96 "java/lang/IllegalArgumentException", Cond.classLink RL 98 "java/lang/IllegalStateException", Cond.methodLink RL 89 yL_turn, Cond.static yL_turn, Cond.code yL_turn cL_turn 6 (some .int), Cond.methodLink RL 69 yL_up, Cond.static yL_up]
def wsL_law0_r10 : List Cond := [Cond.code yL_up cL_up 2 (some .int), Cond.constant RL 8 (2147483647), Cond.methodLink RL 42 yX2_set, Cond.instanceMethod yX2_set, Cond.selects RX2 yX2_set yX2_set, Cond.code yX2_set cX2_set 4 (some .int), Cond.fieldLink RX2 34 "CoverMeter" "LOWEST_SETTING" "[I", Cond.fieldLink RX2 38 "CoverMeter" "GREATEST_SETTING" "[I", Cond.methodLink RX2 41 yX2_save, Cond.instanceMethod yX2_save, Cond.selects RX2 yX2_save yX2_save, Cond.code yX2_save cX2_save 1 none, Cond.methodLink RX2 233 yX2_dropOldest, Cond.instanceMethod yX2_dropOldest, Cond.selects RX2 yX2_dropOldest yX2_dropOldest, Cond.code yX2_dropOldest cX2_dropOldest 3 none, Cond.methodLink RX2 152 yX1_copyFrom, Cond.instanceMethod yX1_copyFrom, Cond.selects RX1 yX1_copyFrom yX1_copyFrom, Cond.code yX1_copyFrom cX1_copyFrom 2 none, Cond.methodLink RL 74 yL_some, Cond.static yL_some, Cond.code yL_some cL_some 2 (some .long), Cond.constantLong RL 9 (65535)]
def wsL_law0_r11 : List Cond := [Cond.constantLong RL 11 (65537), Cond.constantLong RL 13 (4398046511103), Cond.methodLink RL 45 yX2_addPerson, Cond.instanceMethod yX2_addPerson, Cond.selects RX2 yX2_addPerson yX2_addPerson, Cond.code yX2_addPerson cX2_addPerson 3 (some .int), Cond.constantLong RX2 47 (4398046511103), Cond.methodLink RX2 60 yX2_needAllowed, Cond.static yX2_needAllowed, Cond.code yX2_needAllowed cX2_needAllowed 1 none, Cond.classLink RX2 228 "java/lang/IllegalStateException", Cond.initialized "java/lang/IllegalStateException", Cond.methodLink RX2 64 yX1_enterPerson, Cond.instanceMethod yX1_enterPerson, Cond.selects RX1 yX1_enterPerson yX1_enterPerson, Cond.code yX1_enterPerson cX1_enterPerson 4 (some .int), Cond.methodLink RL 49 yX2_roster, Cond.instanceMethod yX2_roster, Cond.selects RX2 yX2_roster yX2_roster, Cond.code yX2_roster cX2_roster 4 (some .int), Cond.fieldLink RX2 76 "CoverMeter$State" "rosters" "[J", Cond.methodLink RX2 72 yX1_canChangeRoster, Cond.instanceMethod yX1_canChangeRoster, Cond.selects RX1 yX1_canChangeRoster yX1_canChangeRoster]
def wsL_law0_r12 : List Cond := [Cond.code yX1_canChangeRoster cX1_canChangeRoster 7 (some .boolean), Cond.methodLink RX2 80 yJ13_bitCount_95d88, Cond.methodLink RL 53 yX2_absent, Cond.instanceMethod yX2_absent, Cond.selects RX2 yX2_absent yX2_absent, Cond.code yX2_absent cX2_absent 3 (some .int), Cond.methodLink RX2 85 yX1_canBeAbsent, Cond.instanceMethod yX1_canBeAbsent, Cond.selects RX1 yX1_canBeAbsent yX1_canBeAbsent, Cond.code yX1_canBeAbsent cX1_canBeAbsent 5 (some .boolean), Cond.methodLink RX2 89 yX1_enterAbsence, Cond.instanceMethod yX1_enterAbsence, Cond.selects RX1 yX1_enterAbsence yX1_enterAbsence, Cond.code yX1_enterAbsence cX1_enterAbsence 4 (some .int), Cond.methodLink RX1 70 yX1_dropBids, Cond.instanceMethod yX1_dropBids, Cond.selects RX1 yX1_dropBids yX1_dropBids, Cond.code yX1_dropBids cX1_dropBids 3 none, Cond.methodLink RL 56 yX2_bid, Cond.instanceMethod yX2_bid, Cond.selects RX2 yX2_bid yX2_bid, Cond.code yX2_bid cX2_bid 4 (some .int), Cond.methodLink RX2 96 yX1_canBid, Cond.instanceMethod yX1_canBid]
def wsL_law0_r13 : List Cond := [Cond.selects RX1 yX1_canBid yX1_canBid, Cond.code yX1_canBid cX1_canBid 3 (some .boolean), Cond.methodLink RX2 105 yX1_bidsFor, Cond.methodLink RL 78 yX2_takeBack, Cond.instanceMethod yX2_takeBack, Cond.selects RX2 yX2_takeBack yX2_takeBack, Cond.code yX2_takeBack cX2_takeBack 5 (some .int), Cond.methodLink RL 60 yX2_cover, Cond.instanceMethod yX2_cover, Cond.selects RX2 yX2_cover yX2_cover, Cond.code yX2_cover cX2_cover 2 (some .int), Cond.fieldLink RX2 116 "CoverMeter$State" "coverers" "[I", Cond.methodLink RX2 109 yX1_nextCoverer, Cond.instanceMethod yX1_nextCoverer, Cond.selects RX1 yX1_nextCoverer yX1_nextCoverer, Cond.code yX1_nextCoverer cX1_nextCoverer 4 (some .int), Cond.methodLink RX1 94 yX1_comesBefore, Cond.instanceMethod yX1_comesBefore, Cond.selects RX1 yX1_comesBefore yX1_comesBefore, Cond.code yX1_comesBefore cX1_comesBefore 6 (some .boolean), Cond.methodLink RX1 98 yX1_isLess, Cond.static yX1_isLess, Cond.code yX1_isLess cX1_isLess 4 (some .boolean), Cond.methodLink RX2 112 yX1_coverOpen]
def wsL_law0_r14 : List Cond := [Cond.instanceMethod yX1_coverOpen, Cond.selects RX1 yX1_coverOpen yX1_coverOpen, Cond.code yX1_coverOpen cX1_coverOpen 4 (some .boolean), Cond.methodLink RX1 102 yX1_nextCoverer, Cond.methodLink RL 81 yX2_coverAll, Cond.instanceMethod yX2_coverAll, Cond.selects RX2 yX2_coverAll yX2_coverAll, Cond.code yX2_coverAll cX2_coverAll 1 (some .int), Cond.methodLink RX2 119 yX1_coverAllOpen, Cond.instanceMethod yX1_coverAllOpen, Cond.selects RX1 yX1_coverAllOpen yX1_coverAllOpen, Cond.code yX1_coverAllOpen cX1_coverAllOpen 3 (some .int), Cond.methodLink RX1 106 yX1_coverOpen, Cond.methodLink RL 63 yX2_handOver, Cond.instanceMethod yX2_handOver, Cond.selects RX2 yX2_handOver yX2_handOver, Cond.code yX2_handOver cX2_handOver 4 (some .int), Cond.methodLink RX2 123 yX1_isCovered, Cond.instanceMethod yX1_isCovered, Cond.selects RX1 yX1_isCovered yX1_isCovered, Cond.code yX1_isCovered cX1_isCovered 2 (some .boolean), Cond.methodLink RX2 126 yX1_hindrance, Cond.methodLink RX2 129 yX1_moveCover, Cond.instanceMethod yX1_moveCover]
def wsL_law0_r15 : List Cond := [Cond.selects RX1 yX1_moveCover yX1_moveCover, Cond.code yX1_moveCover cX1_moveCover 6 none, Cond.methodLink RL 66 yX2_giveUp, Cond.instanceMethod yX2_giveUp, Cond.selects RX2 yX2_giveUp yX2_giveUp, Cond.code yX2_giveUp cX2_giveUp 3 (some .int), Cond.fieldLink RX2 133 "CoverMeter$State" "statuses" "[I", Cond.methodLink RX2 136 yX1_dropBids, Cond.methodLink RL 85 yL_any, Cond.static yL_any, Cond.code yL_any cL_any 3 (some .int), Cond.methodLink RL 126 yL_isUndone, Cond.static yL_isUndone, Cond.code yL_isUndone cL_isUndone 9 (some .boolean), Cond.methodLink RL 111 yX2_undo, Cond.instanceMethod yX2_undo, Cond.selects RX2 yX2_undo yX2_undo, Cond.code yX2_undo cX2_undo 1 (some .int), Cond.methodLink RL 130 yL_areRight, Cond.static yL_areRight, Cond.code yL_areRight cL_areRight 7 (some .boolean), Cond.methodLink RL 100 yL_ones, Cond.static yL_ones, Cond.code yL_ones cL_ones 4 (some .int)]
def wsL_law0_r16 : List Cond := [Cond.methodLink RL 103 yL_isAbsenceRight, Cond.static yL_isAbsenceRight, Cond.code yL_isAbsenceRight cL_isAbsenceRight 7 (some .boolean)]
def wsL_law0 : List Cond := (wsL_law0_r1 ++ (wsL_law0_r2 ++ (wsL_law0_r3 ++ (wsL_law0_r4 ++ (wsL_law0_r5 ++ (wsL_law0_r6 ++ (wsL_law0_r7 ++ (wsL_law0_r8 ++ (wsL_law0_r9 ++ (wsL_law0_r10 ++ (wsL_law0_r11 ++ (wsL_law0_r12 ++ (wsL_law0_r13 ++ (wsL_law0_r14 ++ (wsL_law0_r15 ++ wsL_law0_r16))))))))))))))) ++ wsX20 ++ wsX10 ++ wsX00 ++ ([] : List Cond)
def wsL_law : List Cond := wsL_law0 ++ (vx_atS RX2 53 "java/lang/IllegalArgumentException" ["java/lang/RuntimeException", "java/lang/Exception"]).filter goodWord ++ (vx_atS RX2 220 "java/lang/IndexOutOfBoundsException" ["java/lang/RuntimeException", "java/lang/Exception"]).filter goodWord ++ (vx_atS RX2 232 "java/lang/IllegalStateException" ["java/lang/RuntimeException", "java/lang/Exception"]).filter goodWord
set_option maxRecDepth 20000 in
theorem wsL_law_in0_1 : ∀ w ∈ wsL_law0_r1, w ∈ lw_tbl := fun w h => (goodIn_p wsL_law0_r1 [24, 27, 32] (by decide +kernel) (by decide +kernel) w h).1
set_option maxRecDepth 20000 in
theorem wsL_law_in0_2 : ∀ w ∈ wsL_law0_r2, w ∈ lw_tbl := fun w h => (goodIn_p wsL_law0_r2 [99] (by decide +kernel) (by decide +kernel) w h).1
set_option maxRecDepth 20000 in
theorem wsL_law_in0_3 : ∀ w ∈ wsL_law0_r3, w ∈ lw_tbl := fun w h => (goodIn_p wsL_law0_r3 [230, 234, 240, 243, 145] (by decide +kernel) (by decide +kernel) w h).1
set_option maxRecDepth 20000 in
theorem wsL_law_in0_4 : ∀ w ∈ wsL_law0_r4, w ∈ lw_tbl := fun w h => (goodIn_p wsL_law0_r4 [149, 153, 156, 160, 163, 167] (by decide +kernel) (by decide +kernel) w h).1
set_option maxRecDepth 20000 in
theorem wsL_law_in0_5 : ∀ w ∈ wsL_law0_r5, w ∈ lw_tbl := fun w h => (goodIn_p wsL_law0_r5 [171, 174, 178, 315, 319, 323] (by decide +kernel) (by decide +kernel) w h).1
set_option maxRecDepth 20000 in
theorem wsL_law_in0_6 : ∀ w ∈ wsL_law0_r6, w ∈ lw_tbl := fun w h => (goodIn_p wsL_law0_r6 [327, 186, 189, 196, 201] (by decide +kernel) (by decide +kernel) w h).1
set_option maxRecDepth 20000 in
theorem wsL_law_in0_7 : ∀ w ∈ wsL_law0_r7, w ∈ lw_tbl := fun w h => (goodIn_p wsL_law0_r7 [347, 351, 355, 359, 210] (by decide +kernel) (by decide +kernel) w h).1
set_option maxRecDepth 20000 in
theorem wsL_law_in0_8 : ∀ w ∈ wsL_law0_r8, w ∈ lw_tbl := fun w h => (goodIn_p wsL_law0_r8 [214, 218, 222, 226, 364, 139] (by decide +kernel) (by decide +kernel) w h).1
set_option maxRecDepth 20000 in
theorem wsL_law_in0_9 : ∀ w ∈ wsL_law0_r9, w ∈ lw_tbl := fun w h => (goodIn_p wsL_law0_r9 [182, 206, 373] (by decide +kernel) (by decide +kernel) w h).1
set_option maxRecDepth 20000 in
theorem wsL_law_in0_10 : ∀ w ∈ wsL_law0_r10, w ∈ lw_tbl := fun w h => (goodIn_p wsL_law0_r10 [376, 381, 389, 393, 397, 400] (by decide +kernel) (by decide +kernel) w h).1
set_option maxRecDepth 20000 in
theorem wsL_law_in0_11 : ∀ w ∈ wsL_law0_r11, w ∈ lw_tbl := fun w h => (goodIn_p wsL_law0_r11 [407, 412, 432, 436] (by decide +kernel) (by decide +kernel) w h).1
set_option maxRecDepth 20000 in
theorem wsL_law_in0_12 : ∀ w ∈ wsL_law0_r12, w ∈ lw_tbl := fun w h => (goodIn_p wsL_law0_r12 [440, 445, 449, 453, 457, 461] (by decide +kernel) (by decide +kernel) w h).1
set_option maxRecDepth 20000 in
theorem wsL_law_in0_13 : ∀ w ∈ wsL_law0_r13, w ∈ lw_tbl := fun w h => (goodIn_p wsL_law0_r13 [465, 470, 474, 478, 482, 485] (by decide +kernel) (by decide +kernel) w h).1
set_option maxRecDepth 20000 in
theorem wsL_law_in0_14 : ∀ w ∈ wsL_law0_r14, w ∈ lw_tbl := fun w h => (goodIn_p wsL_law0_r14 [489, 494, 498, 503, 507] (by decide +kernel) (by decide +kernel) w h).1
set_option maxRecDepth 20000 in
theorem wsL_law_in0_15 : ∀ w ∈ wsL_law0_r15, w ∈ lw_tbl := fun w h => (goodIn_p wsL_law0_r15 [512, 516, 520, 533, 537, 524, 527] (by decide +kernel) (by decide +kernel) w h).1
set_option maxRecDepth 20000 in
theorem wsL_law_in0_16 : ∀ w ∈ wsL_law0_r16, w ∈ lw_tbl := fun w h => (goodIn_p wsL_law0_r16 [530] (by decide +kernel) (by decide +kernel) w h).1
theorem wsL_law_in0_wsX20 : ∀ w ∈ wsX20, w ∈ lw_tbl := by decide +kernel
theorem wsL_law_in0_wsX10 : ∀ w ∈ wsX10, w ∈ lw_tbl := by decide +kernel
theorem wsL_law_in0_wsX00 : ∀ w ∈ wsX00, w ∈ lw_tbl := by decide +kernel
theorem wsL_law_in0_rs : ∀ w, w ∈ (wsL_law0_r1 ++ (wsL_law0_r2 ++ (wsL_law0_r3 ++ (wsL_law0_r4 ++ (wsL_law0_r5 ++ (wsL_law0_r6 ++ (wsL_law0_r7 ++ (wsL_law0_r8 ++ (wsL_law0_r9 ++ (wsL_law0_r10 ++ (wsL_law0_r11 ++ (wsL_law0_r12 ++ (wsL_law0_r13 ++ (wsL_law0_r14 ++ (wsL_law0_r15 ++ wsL_law0_r16))))))))))))))) → w ∈ lw_tbl := fun w h => (List.mem_append.mp h).elim (wsL_law_in0_1 w) (fun h => (List.mem_append.mp h).elim (wsL_law_in0_2 w) (fun h => (List.mem_append.mp h).elim (wsL_law_in0_3 w) (fun h => (List.mem_append.mp h).elim (wsL_law_in0_4 w) (fun h => (List.mem_append.mp h).elim (wsL_law_in0_5 w) (fun h => (List.mem_append.mp h).elim (wsL_law_in0_6 w) (fun h => (List.mem_append.mp h).elim (wsL_law_in0_7 w) (fun h => (List.mem_append.mp h).elim (wsL_law_in0_8 w) (fun h => (List.mem_append.mp h).elim (wsL_law_in0_9 w) (fun h => (List.mem_append.mp h).elim (wsL_law_in0_10 w) (fun h => (List.mem_append.mp h).elim (wsL_law_in0_11 w) (fun h => (List.mem_append.mp h).elim (wsL_law_in0_12 w) (fun h => (List.mem_append.mp h).elim (wsL_law_in0_13 w) (fun h => (List.mem_append.mp h).elim (wsL_law_in0_14 w) (fun h => (List.mem_append.mp h).elim (wsL_law_in0_15 w) (fun h => wsL_law_in0_16 w h)))))))))))))))
set_option maxRecDepth 20000 in
theorem wsL_law_in0 : ∀ w ∈ wsL_law0, w ∈ lw_tbl := fun w h => (List.mem_append.mp h).elim (fun h => (List.mem_append.mp h).elim (fun h => (List.mem_append.mp h).elim (fun h => (List.mem_append.mp h).elim (wsL_law_in0_rs w) (wsL_law_in0_wsX20 w)) (wsL_law_in0_wsX10 w)) (wsL_law_in0_wsX00 w)) (fun h => nomatch h)
theorem wsL_law_x0 : ∀ w ∈ (vx_atS RX2 53 "java/lang/IllegalArgumentException" ["java/lang/RuntimeException", "java/lang/Exception"]).filter goodWord, w ∈ lw_tbl := by decide +kernel
theorem wsL_law_x1 : ∀ w ∈ (vx_atS RX2 220 "java/lang/IndexOutOfBoundsException" ["java/lang/RuntimeException", "java/lang/Exception"]).filter goodWord, w ∈ lw_tbl := by decide +kernel
theorem wsL_law_x2 : ∀ w ∈ (vx_atS RX2 232 "java/lang/IllegalStateException" ["java/lang/RuntimeException", "java/lang/Exception"]).filter goodWord, w ∈ lw_tbl := by decide +kernel
theorem wsL_law_in : ∀ w ∈ wsL_law, w ∈ lw_tbl := fun w h => (List.mem_append.mp h).elim (fun h => (List.mem_append.mp h).elim (fun h => (List.mem_append.mp h).elim (fun h => wsL_law_in0 w h) (fun h => wsL_law_x0 w h)) (fun h => wsL_law_x1 w h)) (fun h => wsL_law_x2 w h)
theorem inlX0 : ∀ w ∈ wsX00, w ∈ wsL_law := fun _ h => List.mem_append_left _ (List.mem_append_left _ (List.mem_append_left _ (List.mem_append_left _ (List.mem_append_right _ h))))
theorem inX0 : ∀ w ∈ wsX00, w ∈ lw_tbl := fun w h => wsL_law_in w (inlX0 w h)
theorem inlX1 : ∀ w ∈ wsX10, w ∈ wsL_law := fun _ h => List.mem_append_left _ (List.mem_append_left _ (List.mem_append_left _ (List.mem_append_left _ (List.mem_append_left _ (List.mem_append_right _ h)))))
theorem inX1 : ∀ w ∈ wsX10, w ∈ lw_tbl := fun w h => wsL_law_in w (inlX1 w h)
theorem inlX2 : ∀ w ∈ wsX20, w ∈ wsL_law := fun _ h => List.mem_append_left _ (List.mem_append_left _ (List.mem_append_left _ (List.mem_append_left _ (List.mem_append_left _ (List.mem_append_left _ (List.mem_append_right _ h))))))
theorem inX2 : ∀ w ∈ wsX20, w ∈ lw_tbl := fun w h => wsL_law_in w (inlX2 w h)
theorem inX3 : ∀ w ∈ wsX30, w ∈ lw_tbl := by decide +kernel
theorem inJ13 : ∀ w ∈ wsJ130, w ∈ lw_tbl := by decide +kernel
theorem inJ9 : ∀ w ∈ wsJ90, w ∈ lw_tbl := by decide +kernel
theorem inJ0 : ∀ w ∈ wsJ00, w ∈ lw_tbl := by decide +kernel
theorem inJ10 : ∀ w ∈ wsJ100, w ∈ lw_tbl := by decide +kernel
theorem dX0_init_0 : decode cX0_init 0 = .ok (.aload_n 0, 1) := by decide +kernel
theorem dX0_init_1 : decode cX0_init 1 = .ok (.invokespecial 3, 3) := by decide +kernel
theorem dX0_init_4 : decode cX0_init 4 = .ok (.aload_n 0, 1) := by decide +kernel
theorem dX0_init_5 : decode cX0_init 5 = .ok (.bipush 100, 2) := by decide +kernel
theorem dX0_init_7 : decode cX0_init 7 = .ok (.newarray .int, 2) := by decide +kernel
theorem dX0_init_9 : decode cX0_init 9 = .ok (.putfield 9, 3) := by decide +kernel
theorem dX0_init_12 : decode cX0_init 12 = .ok (.return_, 1) := by decide +kernel
theorem dX1_init_0 : decode cX1_init 0 = .ok (.aload_n 0, 1) := by decide +kernel
theorem dX1_init_1 : decode cX1_init 1 = .ok (.invokespecial 3, 3) := by decide +kernel
theorem dX1_init_4 : decode cX1_init 4 = .ok (.aload_n 0, 1) := by decide +kernel
theorem dX1_init_5 : decode cX1_init 5 = .ok (.iconst 3, 1) := by decide +kernel
theorem dX1_init_6 : decode cX1_init 6 = .ok (.newarray .int, 2) := by decide +kernel
theorem dX1_init_8 : decode cX1_init 8 = .ok (.putfield 9, 3) := by decide +kernel
theorem dX1_init_11 : decode cX1_init 11 = .ok (.aload_n 0, 1) := by decide +kernel
theorem dX1_init_12 : decode cX1_init 12 = .ok (.bipush 8, 2) := by decide +kernel
theorem dX1_init_14 : decode cX1_init 14 = .ok (.newarray .long, 2) := by decide +kernel
theorem dX1_init_16 : decode cX1_init 16 = .ok (.putfield 15, 3) := by decide +kernel
theorem dX1_init_19 : decode cX1_init 19 = .ok (.aload_n 0, 1) := by decide +kernel
theorem dX1_init_20 : decode cX1_init 20 = .ok (.bipush 8, 2) := by decide +kernel
theorem dX1_init_22 : decode cX1_init 22 = .ok (.newarray .long, 2) := by decide +kernel
theorem dX1_init_24 : decode cX1_init 24 = .ok (.putfield 19, 3) := by decide +kernel
theorem dX1_init_27 : decode cX1_init 27 = .ok (.aload_n 0, 1) := by decide +kernel
theorem dX1_init_28 : decode cX1_init 28 = .ok (.bipush 8, 2) := by decide +kernel
theorem dX1_init_30 : decode cX1_init 30 = .ok (.newarray .long, 2) := by decide +kernel
theorem dX1_init_32 : decode cX1_init 32 = .ok (.putfield 22, 3) := by decide +kernel
theorem dX1_init_35 : decode cX1_init 35 = .ok (.aload_n 0, 1) := by decide +kernel
theorem dX1_init_36 : decode cX1_init 36 = .ok (.bipush 8, 2) := by decide +kernel
theorem dX1_init_38 : decode cX1_init 38 = .ok (.newarray .int, 2) := by decide +kernel
theorem dX1_init_40 : decode cX1_init 40 = .ok (.putfield 25, 3) := by decide +kernel
theorem dX1_init_43 : decode cX1_init 43 = .ok (.aload_n 0, 1) := by decide +kernel
theorem dX1_init_44 : decode cX1_init 44 = .ok (.bipush 8, 2) := by decide +kernel
theorem dX1_init_46 : decode cX1_init 46 = .ok (.newarray .int, 2) := by decide +kernel
theorem dX1_init_48 : decode cX1_init 48 = .ok (.putfield 28, 3) := by decide +kernel
theorem dX1_init_51 : decode cX1_init 51 = .ok (.aload_n 0, 1) := by decide +kernel
theorem dX1_init_52 : decode cX1_init 52 = .ok (.bipush 30, 2) := by decide +kernel
theorem dX1_init_54 : decode cX1_init 54 = .ok (.newarray .int, 2) := by decide +kernel
theorem dX1_init_56 : decode cX1_init 56 = .ok (.putfield 31, 3) := by decide +kernel
theorem dX1_init_59 : decode cX1_init 59 = .ok (.aload_n 0, 1) := by decide +kernel
theorem dX1_init_60 : decode cX1_init 60 = .ok (.bipush 30, 2) := by decide +kernel
theorem dX1_init_62 : decode cX1_init 62 = .ok (.newarray .int, 2) := by decide +kernel
theorem dX1_init_64 : decode cX1_init 64 = .ok (.putfield 34, 3) := by decide +kernel
theorem dX1_init_67 : decode cX1_init 67 = .ok (.aload_n 0, 1) := by decide +kernel
theorem dX1_init_68 : decode cX1_init 68 = .ok (.bipush 30, 2) := by decide +kernel
theorem dX1_init_70 : decode cX1_init 70 = .ok (.newarray .int, 2) := by decide +kernel
theorem dX1_init_72 : decode cX1_init 72 = .ok (.putfield 37, 3) := by decide +kernel
theorem dX1_init_75 : decode cX1_init 75 = .ok (.aload_n 0, 1) := by decide +kernel
theorem dX1_init_76 : decode cX1_init 76 = .ok (.bipush 30, 2) := by decide +kernel
theorem dX1_init_78 : decode cX1_init 78 = .ok (.newarray .int, 2) := by decide +kernel
theorem dX1_init_80 : decode cX1_init 80 = .ok (.putfield 40, 3) := by decide +kernel
theorem dX1_init_83 : decode cX1_init 83 = .ok (.aload_n 0, 1) := by decide +kernel
theorem dX1_init_84 : decode cX1_init 84 = .ok (.bipush 30, 2) := by decide +kernel
theorem dX1_init_86 : decode cX1_init 86 = .ok (.newarray .int, 2) := by decide +kernel
theorem dX1_init_88 : decode cX1_init 88 = .ok (.putfield 43, 3) := by decide +kernel
theorem dX1_init_91 : decode cX1_init 91 = .ok (.aload_n 0, 1) := by decide +kernel
theorem dX1_init_92 : decode cX1_init 92 = .ok (.sipush 240, 3) := by decide +kernel
theorem dX1_init_95 : decode cX1_init 95 = .ok (.newarray .int, 2) := by decide +kernel
theorem dX1_init_97 : decode cX1_init 97 = .ok (.putfield 46, 3) := by decide +kernel
theorem dX1_init_100 : decode cX1_init 100 = .ok (.getstatic 49, 3) := by decide +kernel
theorem dX1_init_103 : decode cX1_init 103 = .ok (.iconst 0, 1) := by decide +kernel
theorem dX1_init_104 : decode cX1_init 104 = .ok (.aload_n 0, 1) := by decide +kernel
theorem dX1_init_105 : decode cX1_init 105 = .ok (.getfield 9, 3) := by decide +kernel
theorem dX1_init_108 : decode cX1_init 108 = .ok (.iconst 0, 1) := by decide +kernel
theorem dX1_init_109 : decode cX1_init 109 = .ok (.iconst 3, 1) := by decide +kernel
theorem dX1_init_110 : decode cX1_init 110 = .ok (.invokestatic 52, 3) := by decide +kernel
theorem dX1_init_113 : decode cX1_init 113 = .ok (.return_, 1) := by decide +kernel
theorem dX1_copyFrom_0 : decode cX1_copyFrom 0 = .ok (.aload_n 1, 1) := by decide +kernel
theorem dX1_copyFrom_1 : decode cX1_copyFrom 1 = .ok (.getfield 9, 3) := by decide +kernel
theorem dX1_copyFrom_4 : decode cX1_copyFrom 4 = .ok (.iconst 0, 1) := by decide +kernel
theorem dX1_copyFrom_5 : decode cX1_copyFrom 5 = .ok (.aload_n 0, 1) := by decide +kernel
theorem dX1_copyFrom_6 : decode cX1_copyFrom 6 = .ok (.getfield 9, 3) := by decide +kernel
theorem dX1_copyFrom_9 : decode cX1_copyFrom 9 = .ok (.iconst 0, 1) := by decide +kernel
theorem dX1_copyFrom_10 : decode cX1_copyFrom 10 = .ok (.iconst 3, 1) := by decide +kernel
theorem dX1_copyFrom_11 : decode cX1_copyFrom 11 = .ok (.invokestatic 52, 3) := by decide +kernel
theorem dX1_copyFrom_14 : decode cX1_copyFrom 14 = .ok (.aload_n 0, 1) := by decide +kernel
theorem dX1_copyFrom_15 : decode cX1_copyFrom 15 = .ok (.aload_n 1, 1) := by decide +kernel
theorem dX1_copyFrom_16 : decode cX1_copyFrom 16 = .ok (.getfield 58, 3) := by decide +kernel
theorem dX1_copyFrom_19 : decode cX1_copyFrom 19 = .ok (.putfield 58, 3) := by decide +kernel
theorem dX1_copyFrom_22 : decode cX1_copyFrom 22 = .ok (.aload_n 0, 1) := by decide +kernel
theorem dX1_copyFrom_23 : decode cX1_copyFrom 23 = .ok (.aload_n 1, 1) := by decide +kernel
theorem dX1_copyFrom_24 : decode cX1_copyFrom 24 = .ok (.getfield 62, 3) := by decide +kernel
theorem dX1_copyFrom_27 : decode cX1_copyFrom 27 = .ok (.putfield 62, 3) := by decide +kernel
theorem dX1_copyFrom_30 : decode cX1_copyFrom 30 = .ok (.aload_n 1, 1) := by decide +kernel
theorem dX1_copyFrom_31 : decode cX1_copyFrom 31 = .ok (.getfield 15, 3) := by decide +kernel
theorem dX1_copyFrom_34 : decode cX1_copyFrom 34 = .ok (.iconst 0, 1) := by decide +kernel
theorem dX1_copyFrom_35 : decode cX1_copyFrom 35 = .ok (.aload_n 0, 1) := by decide +kernel
theorem dX1_copyFrom_36 : decode cX1_copyFrom 36 = .ok (.getfield 15, 3) := by decide +kernel
theorem dX1_copyFrom_39 : decode cX1_copyFrom 39 = .ok (.iconst 0, 1) := by decide +kernel
theorem dX1_copyFrom_40 : decode cX1_copyFrom 40 = .ok (.bipush 8, 2) := by decide +kernel
theorem dX1_copyFrom_42 : decode cX1_copyFrom 42 = .ok (.invokestatic 52, 3) := by decide +kernel
theorem dX1_copyFrom_45 : decode cX1_copyFrom 45 = .ok (.aload_n 1, 1) := by decide +kernel
theorem dX1_copyFrom_46 : decode cX1_copyFrom 46 = .ok (.getfield 19, 3) := by decide +kernel
theorem dX1_copyFrom_49 : decode cX1_copyFrom 49 = .ok (.iconst 0, 1) := by decide +kernel
theorem dX1_copyFrom_50 : decode cX1_copyFrom 50 = .ok (.aload_n 0, 1) := by decide +kernel
theorem dX1_copyFrom_51 : decode cX1_copyFrom 51 = .ok (.getfield 19, 3) := by decide +kernel
theorem dX1_copyFrom_54 : decode cX1_copyFrom 54 = .ok (.iconst 0, 1) := by decide +kernel
theorem dX1_copyFrom_55 : decode cX1_copyFrom 55 = .ok (.bipush 8, 2) := by decide +kernel
theorem dX1_copyFrom_57 : decode cX1_copyFrom 57 = .ok (.invokestatic 52, 3) := by decide +kernel
theorem dX1_copyFrom_60 : decode cX1_copyFrom 60 = .ok (.aload_n 1, 1) := by decide +kernel
theorem dX1_copyFrom_61 : decode cX1_copyFrom 61 = .ok (.getfield 22, 3) := by decide +kernel
theorem dX1_copyFrom_64 : decode cX1_copyFrom 64 = .ok (.iconst 0, 1) := by decide +kernel
theorem dX1_copyFrom_65 : decode cX1_copyFrom 65 = .ok (.aload_n 0, 1) := by decide +kernel
theorem dX1_copyFrom_66 : decode cX1_copyFrom 66 = .ok (.getfield 22, 3) := by decide +kernel
theorem dX1_copyFrom_69 : decode cX1_copyFrom 69 = .ok (.iconst 0, 1) := by decide +kernel
theorem dX1_copyFrom_70 : decode cX1_copyFrom 70 = .ok (.bipush 8, 2) := by decide +kernel
theorem dX1_copyFrom_72 : decode cX1_copyFrom 72 = .ok (.invokestatic 52, 3) := by decide +kernel
theorem dX1_copyFrom_75 : decode cX1_copyFrom 75 = .ok (.aload_n 1, 1) := by decide +kernel
theorem dX1_copyFrom_76 : decode cX1_copyFrom 76 = .ok (.getfield 25, 3) := by decide +kernel
theorem dX1_copyFrom_79 : decode cX1_copyFrom 79 = .ok (.iconst 0, 1) := by decide +kernel
theorem dX1_copyFrom_80 : decode cX1_copyFrom 80 = .ok (.aload_n 0, 1) := by decide +kernel
theorem dX1_copyFrom_81 : decode cX1_copyFrom 81 = .ok (.getfield 25, 3) := by decide +kernel
theorem dX1_copyFrom_84 : decode cX1_copyFrom 84 = .ok (.iconst 0, 1) := by decide +kernel
theorem dX1_copyFrom_85 : decode cX1_copyFrom 85 = .ok (.bipush 8, 2) := by decide +kernel
theorem dX1_copyFrom_87 : decode cX1_copyFrom 87 = .ok (.invokestatic 52, 3) := by decide +kernel
theorem dX1_copyFrom_90 : decode cX1_copyFrom 90 = .ok (.aload_n 1, 1) := by decide +kernel
theorem dX1_copyFrom_91 : decode cX1_copyFrom 91 = .ok (.getfield 28, 3) := by decide +kernel
theorem dX1_copyFrom_94 : decode cX1_copyFrom 94 = .ok (.iconst 0, 1) := by decide +kernel
theorem dX1_copyFrom_95 : decode cX1_copyFrom 95 = .ok (.aload_n 0, 1) := by decide +kernel
theorem dX1_copyFrom_96 : decode cX1_copyFrom 96 = .ok (.getfield 28, 3) := by decide +kernel
theorem dX1_copyFrom_99 : decode cX1_copyFrom 99 = .ok (.iconst 0, 1) := by decide +kernel
theorem dX1_copyFrom_100 : decode cX1_copyFrom 100 = .ok (.bipush 8, 2) := by decide +kernel
theorem dX1_copyFrom_102 : decode cX1_copyFrom 102 = .ok (.invokestatic 52, 3) := by decide +kernel
theorem dX1_copyFrom_105 : decode cX1_copyFrom 105 = .ok (.aload_n 0, 1) := by decide +kernel
theorem dX1_copyFrom_106 : decode cX1_copyFrom 106 = .ok (.aload_n 1, 1) := by decide +kernel
theorem dX1_copyFrom_107 : decode cX1_copyFrom 107 = .ok (.getfield 65, 3) := by decide +kernel
theorem dX1_copyFrom_110 : decode cX1_copyFrom 110 = .ok (.putfield 65, 3) := by decide +kernel
theorem dX1_copyFrom_113 : decode cX1_copyFrom 113 = .ok (.aload_n 1, 1) := by decide +kernel
theorem dX1_copyFrom_114 : decode cX1_copyFrom 114 = .ok (.getfield 31, 3) := by decide +kernel
theorem dX1_copyFrom_117 : decode cX1_copyFrom 117 = .ok (.iconst 0, 1) := by decide +kernel
theorem dX1_copyFrom_118 : decode cX1_copyFrom 118 = .ok (.aload_n 0, 1) := by decide +kernel
theorem dX1_copyFrom_119 : decode cX1_copyFrom 119 = .ok (.getfield 31, 3) := by decide +kernel
theorem dX1_copyFrom_122 : decode cX1_copyFrom 122 = .ok (.iconst 0, 1) := by decide +kernel
theorem dX1_copyFrom_123 : decode cX1_copyFrom 123 = .ok (.bipush 30, 2) := by decide +kernel
theorem dX1_copyFrom_125 : decode cX1_copyFrom 125 = .ok (.invokestatic 52, 3) := by decide +kernel
theorem dX1_copyFrom_128 : decode cX1_copyFrom 128 = .ok (.aload_n 1, 1) := by decide +kernel
theorem dX1_copyFrom_129 : decode cX1_copyFrom 129 = .ok (.getfield 34, 3) := by decide +kernel
theorem dX1_copyFrom_132 : decode cX1_copyFrom 132 = .ok (.iconst 0, 1) := by decide +kernel
theorem dX1_copyFrom_133 : decode cX1_copyFrom 133 = .ok (.aload_n 0, 1) := by decide +kernel
theorem dX1_copyFrom_134 : decode cX1_copyFrom 134 = .ok (.getfield 34, 3) := by decide +kernel
theorem dX1_copyFrom_137 : decode cX1_copyFrom 137 = .ok (.iconst 0, 1) := by decide +kernel
theorem dX1_copyFrom_138 : decode cX1_copyFrom 138 = .ok (.bipush 30, 2) := by decide +kernel
theorem dX1_copyFrom_140 : decode cX1_copyFrom 140 = .ok (.invokestatic 52, 3) := by decide +kernel
theorem dX1_copyFrom_143 : decode cX1_copyFrom 143 = .ok (.aload_n 1, 1) := by decide +kernel
theorem dX1_copyFrom_144 : decode cX1_copyFrom 144 = .ok (.getfield 37, 3) := by decide +kernel
theorem dX1_copyFrom_147 : decode cX1_copyFrom 147 = .ok (.iconst 0, 1) := by decide +kernel
theorem dX1_copyFrom_148 : decode cX1_copyFrom 148 = .ok (.aload_n 0, 1) := by decide +kernel
theorem dX1_copyFrom_149 : decode cX1_copyFrom 149 = .ok (.getfield 37, 3) := by decide +kernel
theorem dX1_copyFrom_152 : decode cX1_copyFrom 152 = .ok (.iconst 0, 1) := by decide +kernel
theorem dX1_copyFrom_153 : decode cX1_copyFrom 153 = .ok (.bipush 30, 2) := by decide +kernel
theorem dX1_copyFrom_155 : decode cX1_copyFrom 155 = .ok (.invokestatic 52, 3) := by decide +kernel
theorem dX1_copyFrom_158 : decode cX1_copyFrom 158 = .ok (.aload_n 1, 1) := by decide +kernel
theorem dX1_copyFrom_159 : decode cX1_copyFrom 159 = .ok (.getfield 40, 3) := by decide +kernel
theorem dX1_copyFrom_162 : decode cX1_copyFrom 162 = .ok (.iconst 0, 1) := by decide +kernel
theorem dX1_copyFrom_163 : decode cX1_copyFrom 163 = .ok (.aload_n 0, 1) := by decide +kernel
theorem dX1_copyFrom_164 : decode cX1_copyFrom 164 = .ok (.getfield 40, 3) := by decide +kernel
theorem dX1_copyFrom_167 : decode cX1_copyFrom 167 = .ok (.iconst 0, 1) := by decide +kernel
theorem dX1_copyFrom_168 : decode cX1_copyFrom 168 = .ok (.bipush 30, 2) := by decide +kernel
theorem dX1_copyFrom_170 : decode cX1_copyFrom 170 = .ok (.invokestatic 52, 3) := by decide +kernel
theorem dX1_copyFrom_173 : decode cX1_copyFrom 173 = .ok (.aload_n 1, 1) := by decide +kernel
theorem dX1_copyFrom_174 : decode cX1_copyFrom 174 = .ok (.getfield 43, 3) := by decide +kernel
theorem dX1_copyFrom_177 : decode cX1_copyFrom 177 = .ok (.iconst 0, 1) := by decide +kernel
theorem dX1_copyFrom_178 : decode cX1_copyFrom 178 = .ok (.aload_n 0, 1) := by decide +kernel
theorem dX1_copyFrom_179 : decode cX1_copyFrom 179 = .ok (.getfield 43, 3) := by decide +kernel
theorem dX1_copyFrom_182 : decode cX1_copyFrom 182 = .ok (.iconst 0, 1) := by decide +kernel
theorem dX1_copyFrom_183 : decode cX1_copyFrom 183 = .ok (.bipush 30, 2) := by decide +kernel
theorem dX1_copyFrom_185 : decode cX1_copyFrom 185 = .ok (.invokestatic 52, 3) := by decide +kernel
theorem dX1_copyFrom_188 : decode cX1_copyFrom 188 = .ok (.aload_n 1, 1) := by decide +kernel
theorem dX1_copyFrom_189 : decode cX1_copyFrom 189 = .ok (.getfield 46, 3) := by decide +kernel
theorem dX1_copyFrom_192 : decode cX1_copyFrom 192 = .ok (.iconst 0, 1) := by decide +kernel
theorem dX1_copyFrom_193 : decode cX1_copyFrom 193 = .ok (.aload_n 0, 1) := by decide +kernel
theorem dX1_copyFrom_194 : decode cX1_copyFrom 194 = .ok (.getfield 46, 3) := by decide +kernel
theorem dX1_copyFrom_197 : decode cX1_copyFrom 197 = .ok (.iconst 0, 1) := by decide +kernel
theorem dX1_copyFrom_198 : decode cX1_copyFrom 198 = .ok (.sipush 240, 3) := by decide +kernel
theorem dX1_copyFrom_201 : decode cX1_copyFrom 201 = .ok (.invokestatic 52, 3) := by decide +kernel
theorem dX1_copyFrom_204 : decode cX1_copyFrom 204 = .ok (.return_, 1) := by decide +kernel
theorem dX1_hasPerson_0 : decode cX1_hasPerson 0 = .ok (.iload_n 1, 1) := by decide +kernel
theorem dX1_hasPerson_1 : decode cX1_hasPerson 1 = .ok (.ifCond .lt 15, 3) := by decide +kernel
theorem dX1_hasPerson_4 : decode cX1_hasPerson 4 = .ok (.iload_n 1, 1) := by decide +kernel
theorem dX1_hasPerson_5 : decode cX1_hasPerson 5 = .ok (.aload_n 0, 1) := by decide +kernel
theorem dX1_hasPerson_6 : decode cX1_hasPerson 6 = .ok (.getfield 62, 3) := by decide +kernel
theorem dX1_hasPerson_9 : decode cX1_hasPerson 9 = .ok (.if_icmp .ge 7, 3) := by decide +kernel
theorem dX1_hasPerson_12 : decode cX1_hasPerson 12 = .ok (.iconst 1, 1) := by decide +kernel
theorem dX1_hasPerson_13 : decode cX1_hasPerson 13 = .ok (.goto 4, 3) := by decide +kernel
theorem dX1_hasPerson_16 : decode cX1_hasPerson 16 = .ok (.iconst 0, 1) := by decide +kernel
theorem dX1_hasPerson_17 : decode cX1_hasPerson 17 = .ok (.ireturn, 1) := by decide +kernel
theorem dX1_hasAbsence_0 : decode cX1_hasAbsence 0 = .ok (.iload_n 1, 1) := by decide +kernel
theorem dX1_hasAbsence_1 : decode cX1_hasAbsence 1 = .ok (.ifCond .lt 15, 3) := by decide +kernel
theorem dX1_hasAbsence_4 : decode cX1_hasAbsence 4 = .ok (.iload_n 1, 1) := by decide +kernel
theorem dX1_hasAbsence_5 : decode cX1_hasAbsence 5 = .ok (.aload_n 0, 1) := by decide +kernel
theorem dX1_hasAbsence_6 : decode cX1_hasAbsence 6 = .ok (.getfield 65, 3) := by decide +kernel
theorem dX1_hasAbsence_9 : decode cX1_hasAbsence 9 = .ok (.if_icmp .ge 7, 3) := by decide +kernel
theorem dX1_hasAbsence_12 : decode cX1_hasAbsence 12 = .ok (.iconst 1, 1) := by decide +kernel
theorem dX1_hasAbsence_13 : decode cX1_hasAbsence 13 = .ok (.goto 4, 3) := by decide +kernel
theorem dX1_hasAbsence_16 : decode cX1_hasAbsence 16 = .ok (.iconst 0, 1) := by decide +kernel
theorem dX1_hasAbsence_17 : decode cX1_hasAbsence 17 = .ok (.ireturn, 1) := by decide +kernel
theorem dX1_isCovered_0 : decode cX1_isCovered 0 = .ok (.aload_n 0, 1) := by decide +kernel
theorem dX1_isCovered_1 : decode cX1_isCovered 1 = .ok (.getfield 37, 3) := by decide +kernel
theorem dX1_isCovered_4 : decode cX1_isCovered 4 = .ok (.iload_n 1, 1) := by decide +kernel
theorem dX1_isCovered_5 : decode cX1_isCovered 5 = .ok (.iaload, 1) := by decide +kernel
theorem dX1_isCovered_6 : decode cX1_isCovered 6 = .ok (.iconst 1, 1) := by decide +kernel
theorem dX1_isCovered_7 : decode cX1_isCovered 7 = .ok (.if_icmp .eq 13, 3) := by decide +kernel
theorem dX1_isCovered_10 : decode cX1_isCovered 10 = .ok (.aload_n 0, 1) := by decide +kernel
theorem dX1_isCovered_11 : decode cX1_isCovered 11 = .ok (.getfield 37, 3) := by decide +kernel
theorem dX1_isCovered_14 : decode cX1_isCovered 14 = .ok (.iload_n 1, 1) := by decide +kernel
theorem dX1_isCovered_15 : decode cX1_isCovered 15 = .ok (.iaload, 1) := by decide +kernel
theorem dX1_isCovered_16 : decode cX1_isCovered 16 = .ok (.iconst 2, 1) := by decide +kernel
theorem dX1_isCovered_17 : decode cX1_isCovered 17 = .ok (.if_icmp .ne 7, 3) := by decide +kernel
theorem dX1_isCovered_20 : decode cX1_isCovered 20 = .ok (.iconst 1, 1) := by decide +kernel
theorem dX1_isCovered_21 : decode cX1_isCovered 21 = .ok (.goto 4, 3) := by decide +kernel
theorem dX1_isCovered_24 : decode cX1_isCovered 24 = .ok (.iconst 0, 1) := by decide +kernel
theorem dX1_isCovered_25 : decode cX1_isCovered 25 = .ok (.ireturn, 1) := by decide +kernel
theorem dX1_enterPerson_0 : decode cX1_enterPerson 0 = .ok (.aload_n 0, 1) := by decide +kernel
theorem dX1_enterPerson_1 : decode cX1_enterPerson 1 = .ok (.getfield 62, 3) := by decide +kernel
theorem dX1_enterPerson_4 : decode cX1_enterPerson 4 = .ok (.istore_n 3, 1) := by decide +kernel
theorem dX1_enterPerson_5 : decode cX1_enterPerson 5 = .ok (.aload_n 0, 1) := by decide +kernel
theorem dX1_enterPerson_6 : decode cX1_enterPerson 6 = .ok (.getfield 15, 3) := by decide +kernel
theorem dX1_enterPerson_9 : decode cX1_enterPerson 9 = .ok (.iload_n 3, 1) := by decide +kernel
theorem dX1_enterPerson_10 : decode cX1_enterPerson 10 = .ok (.lload_n 1, 1) := by decide +kernel
theorem dX1_enterPerson_11 : decode cX1_enterPerson 11 = .ok (.lastore, 1) := by decide +kernel
theorem dX1_enterPerson_12 : decode cX1_enterPerson 12 = .ok (.aload_n 0, 1) := by decide +kernel
theorem dX1_enterPerson_13 : decode cX1_enterPerson 13 = .ok (.getfield 19, 3) := by decide +kernel
theorem dX1_enterPerson_16 : decode cX1_enterPerson 16 = .ok (.iload_n 3, 1) := by decide +kernel
theorem dX1_enterPerson_17 : decode cX1_enterPerson 17 = .ok (.lconst 0, 1) := by decide +kernel
theorem dX1_enterPerson_18 : decode cX1_enterPerson 18 = .ok (.lastore, 1) := by decide +kernel
theorem dX1_enterPerson_19 : decode cX1_enterPerson 19 = .ok (.aload_n 0, 1) := by decide +kernel
theorem dX1_enterPerson_20 : decode cX1_enterPerson 20 = .ok (.getfield 22, 3) := by decide +kernel
theorem dX1_enterPerson_23 : decode cX1_enterPerson 23 = .ok (.iload_n 3, 1) := by decide +kernel
theorem dX1_enterPerson_24 : decode cX1_enterPerson 24 = .ok (.lconst 0, 1) := by decide +kernel
theorem dX1_enterPerson_25 : decode cX1_enterPerson 25 = .ok (.lastore, 1) := by decide +kernel
theorem dX1_enterPerson_26 : decode cX1_enterPerson 26 = .ok (.aload_n 0, 1) := by decide +kernel
theorem dX1_enterPerson_27 : decode cX1_enterPerson 27 = .ok (.getfield 25, 3) := by decide +kernel
theorem dX1_enterPerson_30 : decode cX1_enterPerson 30 = .ok (.iload_n 3, 1) := by decide +kernel
theorem dX1_enterPerson_31 : decode cX1_enterPerson 31 = .ok (.iconst 0, 1) := by decide +kernel
theorem dX1_enterPerson_32 : decode cX1_enterPerson 32 = .ok (.iastore, 1) := by decide +kernel
theorem dX1_enterPerson_33 : decode cX1_enterPerson 33 = .ok (.aload_n 0, 1) := by decide +kernel
theorem dX1_enterPerson_34 : decode cX1_enterPerson 34 = .ok (.getfield 28, 3) := by decide +kernel
theorem dX1_enterPerson_37 : decode cX1_enterPerson 37 = .ok (.iload_n 3, 1) := by decide +kernel
theorem dX1_enterPerson_38 : decode cX1_enterPerson 38 = .ok (.iconst 0, 1) := by decide +kernel
theorem dX1_enterPerson_39 : decode cX1_enterPerson 39 = .ok (.iastore, 1) := by decide +kernel
theorem dX1_enterPerson_40 : decode cX1_enterPerson 40 = .ok (.aload_n 0, 1) := by decide +kernel
theorem dX1_enterPerson_41 : decode cX1_enterPerson 41 = .ok (.dup, 1) := by decide +kernel
theorem dX1_enterPerson_42 : decode cX1_enterPerson 42 = .ok (.getfield 62, 3) := by decide +kernel
theorem dX1_enterPerson_45 : decode cX1_enterPerson 45 = .ok (.iconst 1, 1) := by decide +kernel
theorem dX1_enterPerson_46 : decode cX1_enterPerson 46 = .ok (.iadd, 1) := by decide +kernel
theorem dX1_enterPerson_47 : decode cX1_enterPerson 47 = .ok (.putfield 62, 3) := by decide +kernel
theorem dX1_enterPerson_50 : decode cX1_enterPerson 50 = .ok (.iload_n 3, 1) := by decide +kernel
theorem dX1_enterPerson_51 : decode cX1_enterPerson 51 = .ok (.ireturn, 1) := by decide +kernel
theorem dX1_canChangeRoster_0 : decode cX1_canChangeRoster 0 = .ok (.lconst 1, 1) := by decide +kernel
theorem dX1_canChangeRoster_1 : decode cX1_canChangeRoster 1 = .ok (.iload_n 2, 1) := by decide +kernel
theorem dX1_canChangeRoster_2 : decode cX1_canChangeRoster 2 = .ok (.lshl, 1) := by decide +kernel
theorem dX1_canChangeRoster_3 : decode cX1_canChangeRoster 3 = .ok (.lstore 4, 2) := by decide +kernel
theorem dX1_canChangeRoster_5 : decode cX1_canChangeRoster 5 = .ok (.aload_n 0, 1) := by decide +kernel
theorem dX1_canChangeRoster_6 : decode cX1_canChangeRoster 6 = .ok (.getfield 15, 3) := by decide +kernel
theorem dX1_canChangeRoster_9 : decode cX1_canChangeRoster 9 = .ok (.iload_n 1, 1) := by decide +kernel
theorem dX1_canChangeRoster_10 : decode cX1_canChangeRoster 10 = .ok (.laload, 1) := by decide +kernel
theorem dX1_canChangeRoster_11 : decode cX1_canChangeRoster 11 = .ok (.lload 4, 2) := by decide +kernel
theorem dX1_canChangeRoster_13 : decode cX1_canChangeRoster 13 = .ok (.land, 1) := by decide +kernel
theorem dX1_canChangeRoster_14 : decode cX1_canChangeRoster 14 = .ok (.lconst 0, 1) := by decide +kernel
theorem dX1_canChangeRoster_15 : decode cX1_canChangeRoster 15 = .ok (.lcmp, 1) := by decide +kernel
theorem dX1_canChangeRoster_16 : decode cX1_canChangeRoster 16 = .ok (.ifCond .eq 7, 3) := by decide +kernel
theorem dX1_canChangeRoster_19 : decode cX1_canChangeRoster 19 = .ok (.iconst 1, 1) := by decide +kernel
theorem dX1_canChangeRoster_20 : decode cX1_canChangeRoster 20 = .ok (.goto 4, 3) := by decide +kernel
theorem dX1_canChangeRoster_23 : decode cX1_canChangeRoster 23 = .ok (.iconst 0, 1) := by decide +kernel
theorem dX1_canChangeRoster_24 : decode cX1_canChangeRoster 24 = .ok (.istore 6, 2) := by decide +kernel
theorem dX1_canChangeRoster_26 : decode cX1_canChangeRoster 26 = .ok (.iload 6, 2) := by decide +kernel
theorem dX1_canChangeRoster_28 : decode cX1_canChangeRoster 28 = .ok (.iload_n 3, 1) := by decide +kernel
theorem dX1_canChangeRoster_29 : decode cX1_canChangeRoster 29 = .ok (.if_icmp .eq 28, 3) := by decide +kernel
theorem dX1_canChangeRoster_32 : decode cX1_canChangeRoster 32 = .ok (.aload_n 0, 1) := by decide +kernel
theorem dX1_canChangeRoster_33 : decode cX1_canChangeRoster 33 = .ok (.getfield 19, 3) := by decide +kernel
theorem dX1_canChangeRoster_36 : decode cX1_canChangeRoster 36 = .ok (.iload_n 1, 1) := by decide +kernel
theorem dX1_canChangeRoster_37 : decode cX1_canChangeRoster 37 = .ok (.laload, 1) := by decide +kernel
theorem dX1_canChangeRoster_38 : decode cX1_canChangeRoster 38 = .ok (.aload_n 0, 1) := by decide +kernel
theorem dX1_canChangeRoster_39 : decode cX1_canChangeRoster 39 = .ok (.getfield 22, 3) := by decide +kernel
theorem dX1_canChangeRoster_42 : decode cX1_canChangeRoster 42 = .ok (.iload_n 1, 1) := by decide +kernel
theorem dX1_canChangeRoster_43 : decode cX1_canChangeRoster 43 = .ok (.laload, 1) := by decide +kernel
theorem dX1_canChangeRoster_44 : decode cX1_canChangeRoster 44 = .ok (.lor, 1) := by decide +kernel
theorem dX1_canChangeRoster_45 : decode cX1_canChangeRoster 45 = .ok (.lload 4, 2) := by decide +kernel
theorem dX1_canChangeRoster_47 : decode cX1_canChangeRoster 47 = .ok (.land, 1) := by decide +kernel
theorem dX1_canChangeRoster_48 : decode cX1_canChangeRoster 48 = .ok (.lconst 0, 1) := by decide +kernel
theorem dX1_canChangeRoster_49 : decode cX1_canChangeRoster 49 = .ok (.lcmp, 1) := by decide +kernel
theorem dX1_canChangeRoster_50 : decode cX1_canChangeRoster 50 = .ok (.ifCond .ne 7, 3) := by decide +kernel
theorem dX1_canChangeRoster_53 : decode cX1_canChangeRoster 53 = .ok (.iconst 1, 1) := by decide +kernel
theorem dX1_canChangeRoster_54 : decode cX1_canChangeRoster 54 = .ok (.goto 4, 3) := by decide +kernel
theorem dX1_canChangeRoster_57 : decode cX1_canChangeRoster 57 = .ok (.iconst 0, 1) := by decide +kernel
theorem dX1_canChangeRoster_58 : decode cX1_canChangeRoster 58 = .ok (.ireturn, 1) := by decide +kernel
theorem dX1_canBeAbsent_0 : decode cX1_canBeAbsent 0 = .ok (.lconst 1, 1) := by decide +kernel
theorem dX1_canBeAbsent_1 : decode cX1_canBeAbsent 1 = .ok (.iload_n 2, 1) := by decide +kernel
theorem dX1_canBeAbsent_2 : decode cX1_canBeAbsent 2 = .ok (.lshl, 1) := by decide +kernel
theorem dX1_canBeAbsent_3 : decode cX1_canBeAbsent 3 = .ok (.lstore_n 3, 1) := by decide +kernel
theorem dX1_canBeAbsent_4 : decode cX1_canBeAbsent 4 = .ok (.aload_n 0, 1) := by decide +kernel
theorem dX1_canBeAbsent_5 : decode cX1_canBeAbsent 5 = .ok (.getfield 15, 3) := by decide +kernel
theorem dX1_canBeAbsent_8 : decode cX1_canBeAbsent 8 = .ok (.iload_n 1, 1) := by decide +kernel
theorem dX1_canBeAbsent_9 : decode cX1_canBeAbsent 9 = .ok (.laload, 1) := by decide +kernel
theorem dX1_canBeAbsent_10 : decode cX1_canBeAbsent 10 = .ok (.aload_n 0, 1) := by decide +kernel
theorem dX1_canBeAbsent_11 : decode cX1_canBeAbsent 11 = .ok (.getfield 19, 3) := by decide +kernel
theorem dX1_canBeAbsent_14 : decode cX1_canBeAbsent 14 = .ok (.iload_n 1, 1) := by decide +kernel
theorem dX1_canBeAbsent_15 : decode cX1_canBeAbsent 15 = .ok (.laload, 1) := by decide +kernel
theorem dX1_canBeAbsent_16 : decode cX1_canBeAbsent 16 = .ok (.ldc2_w 68, 3) := by decide +kernel
theorem dX1_canBeAbsent_19 : decode cX1_canBeAbsent 19 = .ok (.lxor, 1) := by decide +kernel
theorem dX1_canBeAbsent_20 : decode cX1_canBeAbsent 20 = .ok (.land, 1) := by decide +kernel
theorem dX1_canBeAbsent_21 : decode cX1_canBeAbsent 21 = .ok (.lload_n 3, 1) := by decide +kernel
theorem dX1_canBeAbsent_22 : decode cX1_canBeAbsent 22 = .ok (.land, 1) := by decide +kernel
theorem dX1_canBeAbsent_23 : decode cX1_canBeAbsent 23 = .ok (.lconst 0, 1) := by decide +kernel
theorem dX1_canBeAbsent_24 : decode cX1_canBeAbsent 24 = .ok (.lcmp, 1) := by decide +kernel
theorem dX1_canBeAbsent_25 : decode cX1_canBeAbsent 25 = .ok (.ifCond .eq 16, 3) := by decide +kernel
theorem dX1_canBeAbsent_28 : decode cX1_canBeAbsent 28 = .ok (.aload_n 0, 1) := by decide +kernel
theorem dX1_canBeAbsent_29 : decode cX1_canBeAbsent 29 = .ok (.getfield 65, 3) := by decide +kernel
theorem dX1_canBeAbsent_32 : decode cX1_canBeAbsent 32 = .ok (.bipush 30, 2) := by decide +kernel
theorem dX1_canBeAbsent_34 : decode cX1_canBeAbsent 34 = .ok (.if_icmp .ge 7, 3) := by decide +kernel
theorem dX1_canBeAbsent_37 : decode cX1_canBeAbsent 37 = .ok (.iconst 1, 1) := by decide +kernel
theorem dX1_canBeAbsent_38 : decode cX1_canBeAbsent 38 = .ok (.goto 4, 3) := by decide +kernel
theorem dX1_canBeAbsent_41 : decode cX1_canBeAbsent 41 = .ok (.iconst 0, 1) := by decide +kernel
theorem dX1_canBeAbsent_42 : decode cX1_canBeAbsent 42 = .ok (.ireturn, 1) := by decide +kernel
set_option maxRecDepth 20000 in
theorem ggX1_enterAbsence_X1_dropBids : GoodIn wsX1_enterAbsence wsX1_dropBids := goodIn_r _ [12, 13, 14, 15, 16, 17, 18, 19, 20, 21, 22, 23, 24, 25, 26, 27, 28, 29, 30, 31] (by decide +kernel) (by decide +kernel)
set_option maxRecDepth 20000 in
theorem gX1_enterAbsence_X1_dropBids : GoodIn wsX1_enterAbsence (wsV RX1 70 RX1 yX1_dropBids wsX1_dropBids) := goodIn_app (goodIn_of _ (by decide +kernel)) ggX1_enterAbsence_X1_dropBids
theorem dX1_enterAbsence_0 : decode cX1_enterAbsence 0 = .ok (.aload_n 0, 1) := by decide +kernel
theorem dX1_enterAbsence_1 : decode cX1_enterAbsence 1 = .ok (.getfield 65, 3) := by decide +kernel
theorem dX1_enterAbsence_4 : decode cX1_enterAbsence 4 = .ok (.istore_n 3, 1) := by decide +kernel
theorem dX1_enterAbsence_5 : decode cX1_enterAbsence 5 = .ok (.aload_n 0, 1) := by decide +kernel
theorem dX1_enterAbsence_6 : decode cX1_enterAbsence 6 = .ok (.getfield 31, 3) := by decide +kernel
theorem dX1_enterAbsence_9 : decode cX1_enterAbsence 9 = .ok (.iload_n 3, 1) := by decide +kernel
theorem dX1_enterAbsence_10 : decode cX1_enterAbsence 10 = .ok (.iload_n 1, 1) := by decide +kernel
theorem dX1_enterAbsence_11 : decode cX1_enterAbsence 11 = .ok (.iastore, 1) := by decide +kernel
theorem dX1_enterAbsence_12 : decode cX1_enterAbsence 12 = .ok (.aload_n 0, 1) := by decide +kernel
theorem dX1_enterAbsence_13 : decode cX1_enterAbsence 13 = .ok (.getfield 34, 3) := by decide +kernel
theorem dX1_enterAbsence_16 : decode cX1_enterAbsence 16 = .ok (.iload_n 3, 1) := by decide +kernel
theorem dX1_enterAbsence_17 : decode cX1_enterAbsence 17 = .ok (.iload_n 2, 1) := by decide +kernel
theorem dX1_enterAbsence_18 : decode cX1_enterAbsence 18 = .ok (.iastore, 1) := by decide +kernel
theorem dX1_enterAbsence_19 : decode cX1_enterAbsence 19 = .ok (.aload_n 0, 1) := by decide +kernel
theorem dX1_enterAbsence_20 : decode cX1_enterAbsence 20 = .ok (.getfield 37, 3) := by decide +kernel
theorem dX1_enterAbsence_23 : decode cX1_enterAbsence 23 = .ok (.iload_n 3, 1) := by decide +kernel
theorem dX1_enterAbsence_24 : decode cX1_enterAbsence 24 = .ok (.iconst 0, 1) := by decide +kernel
theorem dX1_enterAbsence_25 : decode cX1_enterAbsence 25 = .ok (.iastore, 1) := by decide +kernel
theorem dX1_enterAbsence_26 : decode cX1_enterAbsence 26 = .ok (.aload_n 0, 1) := by decide +kernel
theorem dX1_enterAbsence_27 : decode cX1_enterAbsence 27 = .ok (.getfield 40, 3) := by decide +kernel
theorem dX1_enterAbsence_30 : decode cX1_enterAbsence 30 = .ok (.iload_n 3, 1) := by decide +kernel
theorem dX1_enterAbsence_31 : decode cX1_enterAbsence 31 = .ok (.iconst (-1), 1) := by decide +kernel
theorem dX1_enterAbsence_32 : decode cX1_enterAbsence 32 = .ok (.iastore, 1) := by decide +kernel
theorem dX1_enterAbsence_33 : decode cX1_enterAbsence 33 = .ok (.aload_n 0, 1) := by decide +kernel
theorem dX1_enterAbsence_34 : decode cX1_enterAbsence 34 = .ok (.getfield 43, 3) := by decide +kernel
theorem dX1_enterAbsence_37 : decode cX1_enterAbsence 37 = .ok (.iload_n 3, 1) := by decide +kernel
theorem dX1_enterAbsence_38 : decode cX1_enterAbsence 38 = .ok (.iconst 0, 1) := by decide +kernel
theorem dX1_enterAbsence_39 : decode cX1_enterAbsence 39 = .ok (.iastore, 1) := by decide +kernel
theorem dX1_enterAbsence_40 : decode cX1_enterAbsence 40 = .ok (.aload_n 0, 1) := by decide +kernel
theorem dX1_enterAbsence_41 : decode cX1_enterAbsence 41 = .ok (.iload_n 3, 1) := by decide +kernel
theorem dX1_enterAbsence_42 : decode cX1_enterAbsence 42 = .ok (.invokevirtual 70, 3) := by decide +kernel
theorem dX1_enterAbsence_45 : decode cX1_enterAbsence 45 = .ok (.aload_n 0, 1) := by decide +kernel
theorem dX1_enterAbsence_46 : decode cX1_enterAbsence 46 = .ok (.getfield 19, 3) := by decide +kernel
theorem dX1_enterAbsence_49 : decode cX1_enterAbsence 49 = .ok (.iload_n 1, 1) := by decide +kernel
theorem dX1_enterAbsence_50 : decode cX1_enterAbsence 50 = .ok (.dup2, 1) := by decide +kernel
theorem dX1_enterAbsence_51 : decode cX1_enterAbsence 51 = .ok (.laload, 1) := by decide +kernel
theorem dX1_enterAbsence_52 : decode cX1_enterAbsence 52 = .ok (.lconst 1, 1) := by decide +kernel
theorem dX1_enterAbsence_53 : decode cX1_enterAbsence 53 = .ok (.iload_n 2, 1) := by decide +kernel
theorem dX1_enterAbsence_54 : decode cX1_enterAbsence 54 = .ok (.lshl, 1) := by decide +kernel
theorem dX1_enterAbsence_55 : decode cX1_enterAbsence 55 = .ok (.lor, 1) := by decide +kernel
theorem dX1_enterAbsence_56 : decode cX1_enterAbsence 56 = .ok (.lastore, 1) := by decide +kernel
theorem dX1_enterAbsence_57 : decode cX1_enterAbsence 57 = .ok (.aload_n 0, 1) := by decide +kernel
theorem dX1_enterAbsence_58 : decode cX1_enterAbsence 58 = .ok (.dup, 1) := by decide +kernel
theorem dX1_enterAbsence_59 : decode cX1_enterAbsence 59 = .ok (.getfield 65, 3) := by decide +kernel
theorem dX1_enterAbsence_62 : decode cX1_enterAbsence 62 = .ok (.iconst 1, 1) := by decide +kernel
theorem dX1_enterAbsence_63 : decode cX1_enterAbsence 63 = .ok (.iadd, 1) := by decide +kernel
theorem dX1_enterAbsence_64 : decode cX1_enterAbsence 64 = .ok (.putfield 65, 3) := by decide +kernel
theorem dX1_enterAbsence_67 : decode cX1_enterAbsence 67 = .ok (.iload_n 3, 1) := by decide +kernel
theorem dX1_enterAbsence_68 : decode cX1_enterAbsence 68 = .ok (.ireturn, 1) := by decide +kernel
theorem dX1_canBid_0 : decode cX1_canBid 0 = .ok (.aload_n 0, 1) := by decide +kernel
theorem dX1_canBid_1 : decode cX1_canBid 1 = .ok (.getfield 37, 3) := by decide +kernel
theorem dX1_canBid_4 : decode cX1_canBid 4 = .ok (.iload_n 2, 1) := by decide +kernel
theorem dX1_canBid_5 : decode cX1_canBid 5 = .ok (.iaload, 1) := by decide +kernel
theorem dX1_canBid_6 : decode cX1_canBid 6 = .ok (.ifCond .ne 17, 3) := by decide +kernel
theorem dX1_canBid_9 : decode cX1_canBid 9 = .ok (.aload_n 0, 1) := by decide +kernel
theorem dX1_canBid_10 : decode cX1_canBid 10 = .ok (.getfield 31, 3) := by decide +kernel
theorem dX1_canBid_13 : decode cX1_canBid 13 = .ok (.iload_n 2, 1) := by decide +kernel
theorem dX1_canBid_14 : decode cX1_canBid 14 = .ok (.iaload, 1) := by decide +kernel
theorem dX1_canBid_15 : decode cX1_canBid 15 = .ok (.iload_n 1, 1) := by decide +kernel
theorem dX1_canBid_16 : decode cX1_canBid 16 = .ok (.if_icmp .eq 7, 3) := by decide +kernel
theorem dX1_canBid_19 : decode cX1_canBid 19 = .ok (.iconst 1, 1) := by decide +kernel
theorem dX1_canBid_20 : decode cX1_canBid 20 = .ok (.goto 4, 3) := by decide +kernel
theorem dX1_canBid_23 : decode cX1_canBid 23 = .ok (.iconst 0, 1) := by decide +kernel
theorem dX1_canBid_24 : decode cX1_canBid 24 = .ok (.ireturn, 1) := by decide +kernel
set_option maxRecDepth 20000 in
theorem ggX1_bidsFor_X2_bidIndex : GoodIn wsX1_bidsFor wsX2_bidIndex := goodIn_r _ [5] (by decide +kernel) (by decide +kernel)
set_option maxRecDepth 20000 in
theorem gX1_bidsFor_X2_bidIndex_n74 : GoodIn wsX1_bidsFor (wsX2_bidIndex) := ggX1_bidsFor_X2_bidIndex
theorem dX1_bidsFor_0 : decode cX1_bidsFor 0 = .ok (.iconst 0, 1) := by decide +kernel
theorem dX1_bidsFor_1 : decode cX1_bidsFor 1 = .ok (.istore_n 2, 1) := by decide +kernel
theorem dX1_bidsFor_2 : decode cX1_bidsFor 2 = .ok (.iconst 0, 1) := by decide +kernel
theorem dX1_bidsFor_3 : decode cX1_bidsFor 3 = .ok (.istore_n 3, 1) := by decide +kernel
theorem dX1_bidsFor_4 : decode cX1_bidsFor 4 = .ok (.iload_n 3, 1) := by decide +kernel
theorem dX1_bidsFor_5 : decode cX1_bidsFor 5 = .ok (.aload_n 0, 1) := by decide +kernel
theorem dX1_bidsFor_6 : decode cX1_bidsFor 6 = .ok (.getfield 62, 3) := by decide +kernel
theorem dX1_bidsFor_9 : decode cX1_bidsFor 9 = .ok (.if_icmp .ge 26, 3) := by decide +kernel
theorem dX1_bidsFor_12 : decode cX1_bidsFor 12 = .ok (.aload_n 0, 1) := by decide +kernel
theorem dX1_bidsFor_13 : decode cX1_bidsFor 13 = .ok (.getfield 46, 3) := by decide +kernel
theorem dX1_bidsFor_16 : decode cX1_bidsFor 16 = .ok (.iload_n 3, 1) := by decide +kernel
theorem dX1_bidsFor_17 : decode cX1_bidsFor 17 = .ok (.iload_n 1, 1) := by decide +kernel
theorem dX1_bidsFor_18 : decode cX1_bidsFor 18 = .ok (.invokestatic 74, 3) := by decide +kernel
theorem dX1_bidsFor_21 : decode cX1_bidsFor 21 = .ok (.iaload, 1) := by decide +kernel
theorem dX1_bidsFor_22 : decode cX1_bidsFor 22 = .ok (.iconst (-1), 1) := by decide +kernel
theorem dX1_bidsFor_23 : decode cX1_bidsFor 23 = .ok (.if_icmp .eq 6, 3) := by decide +kernel
theorem dX1_bidsFor_26 : decode cX1_bidsFor 26 = .ok (.iinc 2 1, 3) := by decide +kernel
theorem dX1_bidsFor_29 : decode cX1_bidsFor 29 = .ok (.iinc 3 1, 3) := by decide +kernel
theorem dX1_bidsFor_32 : decode cX1_bidsFor 32 = .ok (.goto (-28), 3) := by decide +kernel
theorem dX1_bidsFor_35 : decode cX1_bidsFor 35 = .ok (.iload_n 2, 1) := by decide +kernel
theorem dX1_bidsFor_36 : decode cX1_bidsFor 36 = .ok (.ireturn, 1) := by decide +kernel
set_option maxRecDepth 20000 in
theorem ggX1_bidsBy_X2_bidIndex : GoodIn wsX1_bidsBy wsX2_bidIndex := goodIn_r _ [5] (by decide +kernel) (by decide +kernel)
set_option maxRecDepth 20000 in
theorem gX1_bidsBy_X2_bidIndex_n74 : GoodIn wsX1_bidsBy (wsX2_bidIndex) := ggX1_bidsBy_X2_bidIndex
theorem dX1_bidsBy_0 : decode cX1_bidsBy 0 = .ok (.iconst 0, 1) := by decide +kernel
theorem dX1_bidsBy_1 : decode cX1_bidsBy 1 = .ok (.istore_n 2, 1) := by decide +kernel
theorem dX1_bidsBy_2 : decode cX1_bidsBy 2 = .ok (.iconst 0, 1) := by decide +kernel
theorem dX1_bidsBy_3 : decode cX1_bidsBy 3 = .ok (.istore_n 3, 1) := by decide +kernel
theorem dX1_bidsBy_4 : decode cX1_bidsBy 4 = .ok (.iload_n 3, 1) := by decide +kernel
theorem dX1_bidsBy_5 : decode cX1_bidsBy 5 = .ok (.aload_n 0, 1) := by decide +kernel
theorem dX1_bidsBy_6 : decode cX1_bidsBy 6 = .ok (.getfield 65, 3) := by decide +kernel
theorem dX1_bidsBy_9 : decode cX1_bidsBy 9 = .ok (.if_icmp .ge 26, 3) := by decide +kernel
theorem dX1_bidsBy_12 : decode cX1_bidsBy 12 = .ok (.aload_n 0, 1) := by decide +kernel
theorem dX1_bidsBy_13 : decode cX1_bidsBy 13 = .ok (.getfield 46, 3) := by decide +kernel
theorem dX1_bidsBy_16 : decode cX1_bidsBy 16 = .ok (.iload_n 1, 1) := by decide +kernel
theorem dX1_bidsBy_17 : decode cX1_bidsBy 17 = .ok (.iload_n 3, 1) := by decide +kernel
theorem dX1_bidsBy_18 : decode cX1_bidsBy 18 = .ok (.invokestatic 74, 3) := by decide +kernel
theorem dX1_bidsBy_21 : decode cX1_bidsBy 21 = .ok (.iaload, 1) := by decide +kernel
theorem dX1_bidsBy_22 : decode cX1_bidsBy 22 = .ok (.iconst (-1), 1) := by decide +kernel
theorem dX1_bidsBy_23 : decode cX1_bidsBy 23 = .ok (.if_icmp .eq 6, 3) := by decide +kernel
theorem dX1_bidsBy_26 : decode cX1_bidsBy 26 = .ok (.iinc 2 1, 3) := by decide +kernel
theorem dX1_bidsBy_29 : decode cX1_bidsBy 29 = .ok (.iinc 3 1, 3) := by decide +kernel
theorem dX1_bidsBy_32 : decode cX1_bidsBy 32 = .ok (.goto (-28), 3) := by decide +kernel
theorem dX1_bidsBy_35 : decode cX1_bidsBy 35 = .ok (.iload_n 2, 1) := by decide +kernel
theorem dX1_bidsBy_36 : decode cX1_bidsBy 36 = .ok (.ireturn, 1) := by decide +kernel
set_option maxRecDepth 20000 in
theorem ggX1_dropBids_X2_bidIndex : GoodIn wsX1_dropBids wsX2_bidIndex := goodIn_r _ [4] (by decide +kernel) (by decide +kernel)
set_option maxRecDepth 20000 in
theorem gX1_dropBids_X2_bidIndex_n74 : GoodIn wsX1_dropBids (wsX2_bidIndex) := ggX1_dropBids_X2_bidIndex
theorem dX1_dropBids_0 : decode cX1_dropBids 0 = .ok (.iconst 0, 1) := by decide +kernel
theorem dX1_dropBids_1 : decode cX1_dropBids 1 = .ok (.istore_n 2, 1) := by decide +kernel
theorem dX1_dropBids_2 : decode cX1_dropBids 2 = .ok (.iload_n 2, 1) := by decide +kernel
theorem dX1_dropBids_3 : decode cX1_dropBids 3 = .ok (.bipush 8, 2) := by decide +kernel
theorem dX1_dropBids_5 : decode cX1_dropBids 5 = .ok (.if_icmp .ge 20, 3) := by decide +kernel
theorem dX1_dropBids_8 : decode cX1_dropBids 8 = .ok (.aload_n 0, 1) := by decide +kernel
theorem dX1_dropBids_9 : decode cX1_dropBids 9 = .ok (.getfield 46, 3) := by decide +kernel
theorem dX1_dropBids_12 : decode cX1_dropBids 12 = .ok (.iload_n 2, 1) := by decide +kernel
theorem dX1_dropBids_13 : decode cX1_dropBids 13 = .ok (.iload_n 1, 1) := by decide +kernel
theorem dX1_dropBids_14 : decode cX1_dropBids 14 = .ok (.invokestatic 74, 3) := by decide +kernel
theorem dX1_dropBids_17 : decode cX1_dropBids 17 = .ok (.iconst (-1), 1) := by decide +kernel
theorem dX1_dropBids_18 : decode cX1_dropBids 18 = .ok (.iastore, 1) := by decide +kernel
theorem dX1_dropBids_19 : decode cX1_dropBids 19 = .ok (.iinc 2 1, 3) := by decide +kernel
theorem dX1_dropBids_22 : decode cX1_dropBids 22 = .ok (.goto (-20), 3) := by decide +kernel
theorem dX1_dropBids_25 : decode cX1_dropBids 25 = .ok (.return_, 1) := by decide +kernel
theorem dX1_worked_0 : decode cX1_worked 0 = .ok (.aload_n 0, 1) := by decide +kernel
theorem dX1_worked_1 : decode cX1_worked 1 = .ok (.getfield 15, 3) := by decide +kernel
theorem dX1_worked_4 : decode cX1_worked 4 = .ok (.iload_n 1, 1) := by decide +kernel
theorem dX1_worked_5 : decode cX1_worked 5 = .ok (.laload, 1) := by decide +kernel
theorem dX1_worked_6 : decode cX1_worked 6 = .ok (.aload_n 0, 1) := by decide +kernel
theorem dX1_worked_7 : decode cX1_worked 7 = .ok (.getfield 19, 3) := by decide +kernel
theorem dX1_worked_10 : decode cX1_worked 10 = .ok (.iload_n 1, 1) := by decide +kernel
theorem dX1_worked_11 : decode cX1_worked 11 = .ok (.laload, 1) := by decide +kernel
theorem dX1_worked_12 : decode cX1_worked 12 = .ok (.ldc2_w 68, 3) := by decide +kernel
theorem dX1_worked_15 : decode cX1_worked 15 = .ok (.lxor, 1) := by decide +kernel
theorem dX1_worked_16 : decode cX1_worked 16 = .ok (.land, 1) := by decide +kernel
theorem dX1_worked_17 : decode cX1_worked 17 = .ok (.aload_n 0, 1) := by decide +kernel
theorem dX1_worked_18 : decode cX1_worked 18 = .ok (.getfield 22, 3) := by decide +kernel
theorem dX1_worked_21 : decode cX1_worked 21 = .ok (.iload_n 1, 1) := by decide +kernel
theorem dX1_worked_22 : decode cX1_worked 22 = .ok (.laload, 1) := by decide +kernel
theorem dX1_worked_23 : decode cX1_worked 23 = .ok (.lor, 1) := by decide +kernel
theorem dX1_worked_24 : decode cX1_worked 24 = .ok (.lreturn, 1) := by decide +kernel
theorem dX1_restBehind_0 : decode cX1_restBehind 0 = .ok (.lconst 0, 1) := by decide +kernel
theorem dX1_restBehind_1 : decode cX1_restBehind 1 = .ok (.lstore_n 3, 1) := by decide +kernel
theorem dX1_restBehind_2 : decode cX1_restBehind 2 = .ok (.iconst 1, 1) := by decide +kernel
theorem dX1_restBehind_3 : decode cX1_restBehind 3 = .ok (.istore 5, 2) := by decide +kernel
theorem dX1_restBehind_5 : decode cX1_restBehind 5 = .ok (.iload 5, 2) := by decide +kernel
theorem dX1_restBehind_7 : decode cX1_restBehind 7 = .ok (.aload_n 0, 1) := by decide +kernel
theorem dX1_restBehind_8 : decode cX1_restBehind 8 = .ok (.getfield 9, 3) := by decide +kernel
theorem dX1_restBehind_11 : decode cX1_restBehind 11 = .ok (.iconst 0, 1) := by decide +kernel
theorem dX1_restBehind_12 : decode cX1_restBehind 12 = .ok (.iaload, 1) := by decide +kernel
theorem dX1_restBehind_13 : decode cX1_restBehind 13 = .ok (.if_icmp .gt 16, 3) := by decide +kernel
theorem dX1_restBehind_16 : decode cX1_restBehind 16 = .ok (.lload_n 3, 1) := by decide +kernel
theorem dX1_restBehind_17 : decode cX1_restBehind 17 = .ok (.lload_n 1, 1) := by decide +kernel
theorem dX1_restBehind_18 : decode cX1_restBehind 18 = .ok (.iload 5, 2) := by decide +kernel
theorem dX1_restBehind_20 : decode cX1_restBehind 20 = .ok (.lshl, 1) := by decide +kernel
theorem dX1_restBehind_21 : decode cX1_restBehind 21 = .ok (.lor, 1) := by decide +kernel
theorem dX1_restBehind_22 : decode cX1_restBehind 22 = .ok (.lstore_n 3, 1) := by decide +kernel
theorem dX1_restBehind_23 : decode cX1_restBehind 23 = .ok (.iinc 5 1, 3) := by decide +kernel
theorem dX1_restBehind_26 : decode cX1_restBehind 26 = .ok (.goto (-21), 3) := by decide +kernel
theorem dX1_restBehind_29 : decode cX1_restBehind 29 = .ok (.lload_n 3, 1) := by decide +kernel
theorem dX1_restBehind_30 : decode cX1_restBehind 30 = .ok (.lreturn, 1) := by decide +kernel
theorem dX1_restBefore_0 : decode cX1_restBefore 0 = .ok (.lconst 0, 1) := by decide +kernel
theorem dX1_restBefore_1 : decode cX1_restBefore 1 = .ok (.lstore_n 3, 1) := by decide +kernel
theorem dX1_restBefore_2 : decode cX1_restBefore 2 = .ok (.iconst 1, 1) := by decide +kernel
theorem dX1_restBefore_3 : decode cX1_restBefore 3 = .ok (.istore 5, 2) := by decide +kernel
theorem dX1_restBefore_5 : decode cX1_restBefore 5 = .ok (.iload 5, 2) := by decide +kernel
theorem dX1_restBefore_7 : decode cX1_restBefore 7 = .ok (.aload_n 0, 1) := by decide +kernel
theorem dX1_restBefore_8 : decode cX1_restBefore 8 = .ok (.getfield 9, 3) := by decide +kernel
theorem dX1_restBefore_11 : decode cX1_restBefore 11 = .ok (.iconst 0, 1) := by decide +kernel
theorem dX1_restBefore_12 : decode cX1_restBefore 12 = .ok (.iaload, 1) := by decide +kernel
theorem dX1_restBefore_13 : decode cX1_restBefore 13 = .ok (.if_icmp .gt 16, 3) := by decide +kernel
theorem dX1_restBefore_16 : decode cX1_restBefore 16 = .ok (.lload_n 3, 1) := by decide +kernel
theorem dX1_restBefore_17 : decode cX1_restBefore 17 = .ok (.lload_n 1, 1) := by decide +kernel
theorem dX1_restBefore_18 : decode cX1_restBefore 18 = .ok (.iload 5, 2) := by decide +kernel
theorem dX1_restBefore_20 : decode cX1_restBefore 20 = .ok (.lushr, 1) := by decide +kernel
theorem dX1_restBefore_21 : decode cX1_restBefore 21 = .ok (.lor, 1) := by decide +kernel
theorem dX1_restBefore_22 : decode cX1_restBefore 22 = .ok (.lstore_n 3, 1) := by decide +kernel
theorem dX1_restBefore_23 : decode cX1_restBefore 23 = .ok (.iinc 5 1, 3) := by decide +kernel
theorem dX1_restBefore_26 : decode cX1_restBefore 26 = .ok (.goto (-21), 3) := by decide +kernel
theorem dX1_restBefore_29 : decode cX1_restBefore 29 = .ok (.lload_n 3, 1) := by decide +kernel
theorem dX1_restBefore_30 : decode cX1_restBefore 30 = .ok (.lreturn, 1) := by decide +kernel
set_option maxRecDepth 20000 in
theorem ggX1_hindrance_X1_worked : GoodIn wsX1_hindrance wsX1_worked := goodIn_r _ [8, 9, 3, 10, 11, 21, 22, 23, 24, 25, 26, 27, 28, 29, 30, 31, 32, 33, 34, 35] (by decide +kernel) (by decide +kernel)
set_option maxRecDepth 20000 in
theorem gX1_hindrance_X1_worked : GoodIn wsX1_hindrance (wsV RX1 78 RX1 yX1_worked wsX1_worked) := goodIn_app (goodIn_of _ (by decide +kernel)) ggX1_hindrance_X1_worked
set_option maxRecDepth 20000 in
theorem ggX1_hindrance_X1_restBehind : GoodIn wsX1_hindrance wsX1_restBehind := goodIn_r _ [15, 16, 21, 22, 23, 24, 25, 26, 27, 28, 29, 30, 31, 32, 33, 34, 35] (by decide +kernel) (by decide +kernel)
set_option maxRecDepth 20000 in
theorem gX1_hindrance_X1_restBehind : GoodIn wsX1_hindrance (wsV RX1 84 RX1 yX1_restBehind wsX1_restBehind) := goodIn_app (goodIn_of _ (by decide +kernel)) ggX1_hindrance_X1_restBehind
set_option maxRecDepth 20000 in
theorem ggX1_hindrance_X1_restBefore : GoodIn wsX1_hindrance wsX1_restBefore := goodIn_r _ [20, 16, 21, 22, 23, 24, 25, 26, 27, 28, 29, 30, 31, 32, 33, 34, 35] (by decide +kernel) (by decide +kernel)
set_option maxRecDepth 20000 in
theorem gX1_hindrance_X1_restBefore : GoodIn wsX1_hindrance (wsV RX1 88 RX1 yX1_restBefore wsX1_restBefore) := goodIn_app (goodIn_of _ (by decide +kernel)) ggX1_hindrance_X1_restBefore
theorem dX1_hindrance_0 : decode cX1_hindrance 0 = .ok (.aload_n 0, 1) := by decide +kernel
theorem dX1_hindrance_1 : decode cX1_hindrance 1 = .ok (.getfield 31, 3) := by decide +kernel
theorem dX1_hindrance_4 : decode cX1_hindrance 4 = .ok (.iload_n 2, 1) := by decide +kernel
theorem dX1_hindrance_5 : decode cX1_hindrance 5 = .ok (.iaload, 1) := by decide +kernel
theorem dX1_hindrance_6 : decode cX1_hindrance 6 = .ok (.iload_n 1, 1) := by decide +kernel
theorem dX1_hindrance_7 : decode cX1_hindrance 7 = .ok (.if_icmp .ne 5, 3) := by decide +kernel
theorem dX1_hindrance_10 : decode cX1_hindrance 10 = .ok (.iconst 1, 1) := by decide +kernel
theorem dX1_hindrance_11 : decode cX1_hindrance 11 = .ok (.ireturn, 1) := by decide +kernel
theorem dX1_hindrance_12 : decode cX1_hindrance 12 = .ok (.lconst 1, 1) := by decide +kernel
theorem dX1_hindrance_13 : decode cX1_hindrance 13 = .ok (.aload_n 0, 1) := by decide +kernel
theorem dX1_hindrance_14 : decode cX1_hindrance 14 = .ok (.getfield 34, 3) := by decide +kernel
theorem dX1_hindrance_17 : decode cX1_hindrance 17 = .ok (.iload_n 2, 1) := by decide +kernel
theorem dX1_hindrance_18 : decode cX1_hindrance 18 = .ok (.iaload, 1) := by decide +kernel
theorem dX1_hindrance_19 : decode cX1_hindrance 19 = .ok (.lshl, 1) := by decide +kernel
theorem dX1_hindrance_20 : decode cX1_hindrance 20 = .ok (.lstore_n 3, 1) := by decide +kernel
theorem dX1_hindrance_21 : decode cX1_hindrance 21 = .ok (.aload_n 0, 1) := by decide +kernel
theorem dX1_hindrance_22 : decode cX1_hindrance 22 = .ok (.getfield 19, 3) := by decide +kernel
theorem dX1_hindrance_25 : decode cX1_hindrance 25 = .ok (.iload_n 1, 1) := by decide +kernel
theorem dX1_hindrance_26 : decode cX1_hindrance 26 = .ok (.laload, 1) := by decide +kernel
theorem dX1_hindrance_27 : decode cX1_hindrance 27 = .ok (.lload_n 3, 1) := by decide +kernel
theorem dX1_hindrance_28 : decode cX1_hindrance 28 = .ok (.land, 1) := by decide +kernel
theorem dX1_hindrance_29 : decode cX1_hindrance 29 = .ok (.lconst 0, 1) := by decide +kernel
theorem dX1_hindrance_30 : decode cX1_hindrance 30 = .ok (.lcmp, 1) := by decide +kernel
theorem dX1_hindrance_31 : decode cX1_hindrance 31 = .ok (.ifCond .eq 5, 3) := by decide +kernel
theorem dX1_hindrance_34 : decode cX1_hindrance 34 = .ok (.iconst 2, 1) := by decide +kernel
theorem dX1_hindrance_35 : decode cX1_hindrance 35 = .ok (.ireturn, 1) := by decide +kernel
theorem dX1_hindrance_36 : decode cX1_hindrance 36 = .ok (.aload_n 0, 1) := by decide +kernel
theorem dX1_hindrance_37 : decode cX1_hindrance 37 = .ok (.iload_n 1, 1) := by decide +kernel
theorem dX1_hindrance_38 : decode cX1_hindrance 38 = .ok (.invokevirtual 78, 3) := by decide +kernel
theorem dX1_hindrance_41 : decode cX1_hindrance 41 = .ok (.lstore 5, 2) := by decide +kernel
theorem dX1_hindrance_43 : decode cX1_hindrance 43 = .ok (.lload 5, 2) := by decide +kernel
theorem dX1_hindrance_45 : decode cX1_hindrance 45 = .ok (.lload_n 3, 1) := by decide +kernel
theorem dX1_hindrance_46 : decode cX1_hindrance 46 = .ok (.land, 1) := by decide +kernel
theorem dX1_hindrance_47 : decode cX1_hindrance 47 = .ok (.lconst 0, 1) := by decide +kernel
theorem dX1_hindrance_48 : decode cX1_hindrance 48 = .ok (.lcmp, 1) := by decide +kernel
theorem dX1_hindrance_49 : decode cX1_hindrance 49 = .ok (.ifCond .eq 5, 3) := by decide +kernel
theorem dX1_hindrance_52 : decode cX1_hindrance 52 = .ok (.iconst 3, 1) := by decide +kernel
theorem dX1_hindrance_53 : decode cX1_hindrance 53 = .ok (.ireturn, 1) := by decide +kernel
theorem dX1_hindrance_54 : decode cX1_hindrance 54 = .ok (.aload_n 0, 1) := by decide +kernel
theorem dX1_hindrance_55 : decode cX1_hindrance 55 = .ok (.lload 5, 2) := by decide +kernel
theorem dX1_hindrance_57 : decode cX1_hindrance 57 = .ok (.invokevirtual 84, 3) := by decide +kernel
theorem dX1_hindrance_60 : decode cX1_hindrance 60 = .ok (.lload_n 3, 1) := by decide +kernel
theorem dX1_hindrance_61 : decode cX1_hindrance 61 = .ok (.land, 1) := by decide +kernel
theorem dX1_hindrance_62 : decode cX1_hindrance 62 = .ok (.lconst 0, 1) := by decide +kernel
theorem dX1_hindrance_63 : decode cX1_hindrance 63 = .ok (.lcmp, 1) := by decide +kernel
theorem dX1_hindrance_64 : decode cX1_hindrance 64 = .ok (.ifCond .eq 5, 3) := by decide +kernel
theorem dX1_hindrance_67 : decode cX1_hindrance 67 = .ok (.iconst 4, 1) := by decide +kernel
theorem dX1_hindrance_68 : decode cX1_hindrance 68 = .ok (.ireturn, 1) := by decide +kernel
theorem dX1_hindrance_69 : decode cX1_hindrance 69 = .ok (.aload_n 0, 1) := by decide +kernel
theorem dX1_hindrance_70 : decode cX1_hindrance 70 = .ok (.lload 5, 2) := by decide +kernel
theorem dX1_hindrance_72 : decode cX1_hindrance 72 = .ok (.invokevirtual 88, 3) := by decide +kernel
theorem dX1_hindrance_75 : decode cX1_hindrance 75 = .ok (.lload_n 3, 1) := by decide +kernel
theorem dX1_hindrance_76 : decode cX1_hindrance 76 = .ok (.land, 1) := by decide +kernel
theorem dX1_hindrance_77 : decode cX1_hindrance 77 = .ok (.lconst 0, 1) := by decide +kernel
theorem dX1_hindrance_78 : decode cX1_hindrance 78 = .ok (.lcmp, 1) := by decide +kernel
theorem dX1_hindrance_79 : decode cX1_hindrance 79 = .ok (.ifCond .eq 7, 3) := by decide +kernel
theorem dX1_hindrance_82 : decode cX1_hindrance 82 = .ok (.iconst 5, 1) := by decide +kernel
theorem dX1_hindrance_83 : decode cX1_hindrance 83 = .ok (.goto 4, 3) := by decide +kernel
theorem dX1_hindrance_86 : decode cX1_hindrance 86 = .ok (.iconst 0, 1) := by decide +kernel
theorem dX1_hindrance_87 : decode cX1_hindrance 87 = .ok (.ireturn, 1) := by decide +kernel
set_option maxRecDepth 20000 in
theorem ggX1_personsWhoCanCover_X1_hindrance : GoodIn wsX1_personsWhoCanCover wsX1_hindrance := goodIn_r _ [6, 7, 8, 9, 10, 11, 12, 5, 13, 14, 15, 16, 17, 18, 19, 20, 21, 22, 23, 24, 25, 26, 27, 28, 29, 30, 31, 32, 33, 34, 35, 36, 37, 38, 39, 40] (by decide +kernel) (by decide +kernel)
set_option maxRecDepth 20000 in
theorem gX1_personsWhoCanCover_X1_hindrance : GoodIn wsX1_personsWhoCanCover (wsV RX1 91 RX1 yX1_hindrance wsX1_hindrance) := goodIn_app (goodIn_of _ (by decide +kernel)) ggX1_personsWhoCanCover_X1_hindrance
theorem dX1_personsWhoCanCover_0 : decode cX1_personsWhoCanCover 0 = .ok (.iconst 0, 1) := by decide +kernel
theorem dX1_personsWhoCanCover_1 : decode cX1_personsWhoCanCover 1 = .ok (.istore_n 2, 1) := by decide +kernel
theorem dX1_personsWhoCanCover_2 : decode cX1_personsWhoCanCover 2 = .ok (.iconst 0, 1) := by decide +kernel
theorem dX1_personsWhoCanCover_3 : decode cX1_personsWhoCanCover 3 = .ok (.istore_n 3, 1) := by decide +kernel
theorem dX1_personsWhoCanCover_4 : decode cX1_personsWhoCanCover 4 = .ok (.iload_n 3, 1) := by decide +kernel
theorem dX1_personsWhoCanCover_5 : decode cX1_personsWhoCanCover 5 = .ok (.aload_n 0, 1) := by decide +kernel
theorem dX1_personsWhoCanCover_6 : decode cX1_personsWhoCanCover 6 = .ok (.getfield 62, 3) := by decide +kernel
theorem dX1_personsWhoCanCover_9 : decode cX1_personsWhoCanCover 9 = .ok (.if_icmp .ge 24, 3) := by decide +kernel
theorem dX1_personsWhoCanCover_12 : decode cX1_personsWhoCanCover 12 = .ok (.aload_n 0, 1) := by decide +kernel
theorem dX1_personsWhoCanCover_13 : decode cX1_personsWhoCanCover 13 = .ok (.iload_n 3, 1) := by decide +kernel
theorem dX1_personsWhoCanCover_14 : decode cX1_personsWhoCanCover 14 = .ok (.iload_n 1, 1) := by decide +kernel
theorem dX1_personsWhoCanCover_15 : decode cX1_personsWhoCanCover 15 = .ok (.invokevirtual 91, 3) := by decide +kernel
theorem dX1_personsWhoCanCover_18 : decode cX1_personsWhoCanCover 18 = .ok (.ifCond .ne 9, 3) := by decide +kernel
theorem dX1_personsWhoCanCover_21 : decode cX1_personsWhoCanCover 21 = .ok (.iload_n 2, 1) := by decide +kernel
theorem dX1_personsWhoCanCover_22 : decode cX1_personsWhoCanCover 22 = .ok (.iconst 1, 1) := by decide +kernel
theorem dX1_personsWhoCanCover_23 : decode cX1_personsWhoCanCover 23 = .ok (.iload_n 3, 1) := by decide +kernel
theorem dX1_personsWhoCanCover_24 : decode cX1_personsWhoCanCover 24 = .ok (.ishl, 1) := by decide +kernel
theorem dX1_personsWhoCanCover_25 : decode cX1_personsWhoCanCover 25 = .ok (.ior, 1) := by decide +kernel
theorem dX1_personsWhoCanCover_26 : decode cX1_personsWhoCanCover 26 = .ok (.istore_n 2, 1) := by decide +kernel
theorem dX1_personsWhoCanCover_27 : decode cX1_personsWhoCanCover 27 = .ok (.iinc 3 1, 3) := by decide +kernel
theorem dX1_personsWhoCanCover_30 : decode cX1_personsWhoCanCover 30 = .ok (.goto (-26), 3) := by decide +kernel
theorem dX1_personsWhoCanCover_33 : decode cX1_personsWhoCanCover 33 = .ok (.iload_n 2, 1) := by decide +kernel
theorem dX1_personsWhoCanCover_34 : decode cX1_personsWhoCanCover 34 = .ok (.ireturn, 1) := by decide +kernel
set_option maxRecDepth 20000 in
theorem ggX1_nextCoverer_X1_hindrance : GoodIn wsX1_nextCoverer wsX1_hindrance := goodIn_r _ [7, 8, 9, 10, 11, 12, 13, 6, 14, 15, 16, 17, 18, 19, 20, 21, 22, 23, 24, 25, 26, 40, 41, 42, 43, 44, 45, 46, 47, 48, 49, 50, 51, 52, 53, 54] (by decide +kernel) (by decide +kernel)
set_option maxRecDepth 20000 in
theorem gX1_nextCoverer_X1_hindrance : GoodIn wsX1_nextCoverer (wsV RX1 91 RX1 yX1_hindrance wsX1_hindrance) := goodIn_app (goodIn_of _ (by decide +kernel)) ggX1_nextCoverer_X1_hindrance
set_option maxRecDepth 20000 in
theorem ggX1_nextCoverer_X1_comesBefore : GoodIn wsX1_nextCoverer wsX1_comesBefore := goodIn_r _ [30, 31, 32, 33, 34, 35, 36, 37, 38, 6, 39, 40, 41, 42, 43, 44, 45, 46, 47, 48, 49, 50, 51, 52, 53, 54] (by decide +kernel) (by decide +kernel)
set_option maxRecDepth 20000 in
theorem gX1_nextCoverer_X1_comesBefore : GoodIn wsX1_nextCoverer (wsV RX1 94 RX1 yX1_comesBefore wsX1_comesBefore) := goodIn_app (goodIn_of _ (by decide +kernel)) ggX1_nextCoverer_X1_comesBefore
theorem dX1_nextCoverer_0 : decode cX1_nextCoverer 0 = .ok (.aload_n 0, 1) := by decide +kernel
theorem dX1_nextCoverer_1 : decode cX1_nextCoverer 1 = .ok (.getfield 37, 3) := by decide +kernel
theorem dX1_nextCoverer_4 : decode cX1_nextCoverer 4 = .ok (.iload_n 1, 1) := by decide +kernel
theorem dX1_nextCoverer_5 : decode cX1_nextCoverer 5 = .ok (.iaload, 1) := by decide +kernel
theorem dX1_nextCoverer_6 : decode cX1_nextCoverer 6 = .ok (.ifCond .eq 5, 3) := by decide +kernel
theorem dX1_nextCoverer_9 : decode cX1_nextCoverer 9 = .ok (.iconst (-1), 1) := by decide +kernel
theorem dX1_nextCoverer_10 : decode cX1_nextCoverer 10 = .ok (.ireturn, 1) := by decide +kernel
theorem dX1_nextCoverer_11 : decode cX1_nextCoverer 11 = .ok (.iconst (-1), 1) := by decide +kernel
theorem dX1_nextCoverer_12 : decode cX1_nextCoverer 12 = .ok (.istore_n 2, 1) := by decide +kernel
theorem dX1_nextCoverer_13 : decode cX1_nextCoverer 13 = .ok (.iconst 0, 1) := by decide +kernel
theorem dX1_nextCoverer_14 : decode cX1_nextCoverer 14 = .ok (.istore_n 3, 1) := by decide +kernel
theorem dX1_nextCoverer_15 : decode cX1_nextCoverer 15 = .ok (.iload_n 3, 1) := by decide +kernel
theorem dX1_nextCoverer_16 : decode cX1_nextCoverer 16 = .ok (.aload_n 0, 1) := by decide +kernel
theorem dX1_nextCoverer_17 : decode cX1_nextCoverer 17 = .ok (.getfield 62, 3) := by decide +kernel
theorem dX1_nextCoverer_20 : decode cX1_nextCoverer 20 = .ok (.if_icmp .ge 35, 3) := by decide +kernel
theorem dX1_nextCoverer_23 : decode cX1_nextCoverer 23 = .ok (.aload_n 0, 1) := by decide +kernel
theorem dX1_nextCoverer_24 : decode cX1_nextCoverer 24 = .ok (.iload_n 3, 1) := by decide +kernel
theorem dX1_nextCoverer_25 : decode cX1_nextCoverer 25 = .ok (.iload_n 1, 1) := by decide +kernel
theorem dX1_nextCoverer_26 : decode cX1_nextCoverer 26 = .ok (.invokevirtual 91, 3) := by decide +kernel
theorem dX1_nextCoverer_29 : decode cX1_nextCoverer 29 = .ok (.ifCond .ne 20, 3) := by decide +kernel
theorem dX1_nextCoverer_32 : decode cX1_nextCoverer 32 = .ok (.iload_n 2, 1) := by decide +kernel
theorem dX1_nextCoverer_33 : decode cX1_nextCoverer 33 = .ok (.iconst (-1), 1) := by decide +kernel
theorem dX1_nextCoverer_34 : decode cX1_nextCoverer 34 = .ok (.if_icmp .eq 13, 3) := by decide +kernel
theorem dX1_nextCoverer_37 : decode cX1_nextCoverer 37 = .ok (.aload_n 0, 1) := by decide +kernel
theorem dX1_nextCoverer_38 : decode cX1_nextCoverer 38 = .ok (.iload_n 3, 1) := by decide +kernel
theorem dX1_nextCoverer_39 : decode cX1_nextCoverer 39 = .ok (.iload_n 2, 1) := by decide +kernel
theorem dX1_nextCoverer_40 : decode cX1_nextCoverer 40 = .ok (.iload_n 1, 1) := by decide +kernel
theorem dX1_nextCoverer_41 : decode cX1_nextCoverer 41 = .ok (.invokevirtual 94, 3) := by decide +kernel
theorem dX1_nextCoverer_44 : decode cX1_nextCoverer 44 = .ok (.ifCond .eq 5, 3) := by decide +kernel
theorem dX1_nextCoverer_47 : decode cX1_nextCoverer 47 = .ok (.iload_n 3, 1) := by decide +kernel
theorem dX1_nextCoverer_48 : decode cX1_nextCoverer 48 = .ok (.istore_n 2, 1) := by decide +kernel
theorem dX1_nextCoverer_49 : decode cX1_nextCoverer 49 = .ok (.iinc 3 1, 3) := by decide +kernel
theorem dX1_nextCoverer_52 : decode cX1_nextCoverer 52 = .ok (.goto (-37), 3) := by decide +kernel
theorem dX1_nextCoverer_55 : decode cX1_nextCoverer 55 = .ok (.iload_n 2, 1) := by decide +kernel
theorem dX1_nextCoverer_56 : decode cX1_nextCoverer 56 = .ok (.ireturn, 1) := by decide +kernel
set_option maxRecDepth 20000 in
theorem ggX1_comesBefore_X2_bidIndex : GoodIn wsX1_comesBefore wsX2_bidIndex := goodIn_r _ [6] (by decide +kernel) (by decide +kernel)
set_option maxRecDepth 20000 in
theorem gX1_comesBefore_X2_bidIndex_n74 : GoodIn wsX1_comesBefore (wsX2_bidIndex) := ggX1_comesBefore_X2_bidIndex
set_option maxRecDepth 20000 in
theorem ggX1_comesBefore_X1_isLess : GoodIn wsX1_comesBefore wsX1_isLess := goodIn_r _ [10] (by decide +kernel) (by decide +kernel)
set_option maxRecDepth 20000 in
theorem gX1_comesBefore_X1_isLess : GoodIn wsX1_comesBefore (va_wsS RX1 98 yX1_isLess wsX1_isLess) := goodIn_app (goodIn_of _ (by decide +kernel)) ggX1_comesBefore_X1_isLess
theorem dX1_comesBefore_0 : decode cX1_comesBefore 0 = .ok (.aload_n 0, 1) := by decide +kernel
theorem dX1_comesBefore_1 : decode cX1_comesBefore 1 = .ok (.getfield 46, 3) := by decide +kernel
theorem dX1_comesBefore_4 : decode cX1_comesBefore 4 = .ok (.iload_n 1, 1) := by decide +kernel
theorem dX1_comesBefore_5 : decode cX1_comesBefore 5 = .ok (.iload_n 3, 1) := by decide +kernel
theorem dX1_comesBefore_6 : decode cX1_comesBefore 6 = .ok (.invokestatic 74, 3) := by decide +kernel
theorem dX1_comesBefore_9 : decode cX1_comesBefore 9 = .ok (.iaload, 1) := by decide +kernel
theorem dX1_comesBefore_10 : decode cX1_comesBefore 10 = .ok (.istore 4, 2) := by decide +kernel
theorem dX1_comesBefore_12 : decode cX1_comesBefore 12 = .ok (.aload_n 0, 1) := by decide +kernel
theorem dX1_comesBefore_13 : decode cX1_comesBefore 13 = .ok (.getfield 46, 3) := by decide +kernel
theorem dX1_comesBefore_16 : decode cX1_comesBefore 16 = .ok (.iload_n 2, 1) := by decide +kernel
theorem dX1_comesBefore_17 : decode cX1_comesBefore 17 = .ok (.iload_n 3, 1) := by decide +kernel
theorem dX1_comesBefore_18 : decode cX1_comesBefore 18 = .ok (.invokestatic 74, 3) := by decide +kernel
theorem dX1_comesBefore_21 : decode cX1_comesBefore 21 = .ok (.iaload, 1) := by decide +kernel
theorem dX1_comesBefore_22 : decode cX1_comesBefore 22 = .ok (.istore 5, 2) := by decide +kernel
theorem dX1_comesBefore_24 : decode cX1_comesBefore 24 = .ok (.iload 4, 2) := by decide +kernel
theorem dX1_comesBefore_26 : decode cX1_comesBefore 26 = .ok (.iconst (-1), 1) := by decide +kernel
theorem dX1_comesBefore_27 : decode cX1_comesBefore 27 = .ok (.if_icmp .ne 37, 3) := by decide +kernel
theorem dX1_comesBefore_30 : decode cX1_comesBefore 30 = .ok (.iload 5, 2) := by decide +kernel
theorem dX1_comesBefore_32 : decode cX1_comesBefore 32 = .ok (.iconst (-1), 1) := by decide +kernel
theorem dX1_comesBefore_33 : decode cX1_comesBefore 33 = .ok (.if_icmp .ne 31, 3) := by decide +kernel
theorem dX1_comesBefore_36 : decode cX1_comesBefore 36 = .ok (.aload_n 0, 1) := by decide +kernel
theorem dX1_comesBefore_37 : decode cX1_comesBefore 37 = .ok (.getfield 28, 3) := by decide +kernel
theorem dX1_comesBefore_40 : decode cX1_comesBefore 40 = .ok (.iload_n 1, 1) := by decide +kernel
theorem dX1_comesBefore_41 : decode cX1_comesBefore 41 = .ok (.iaload, 1) := by decide +kernel
theorem dX1_comesBefore_42 : decode cX1_comesBefore 42 = .ok (.aload_n 0, 1) := by decide +kernel
theorem dX1_comesBefore_43 : decode cX1_comesBefore 43 = .ok (.getfield 25, 3) := by decide +kernel
theorem dX1_comesBefore_46 : decode cX1_comesBefore 46 = .ok (.iload_n 1, 1) := by decide +kernel
theorem dX1_comesBefore_47 : decode cX1_comesBefore 47 = .ok (.iaload, 1) := by decide +kernel
theorem dX1_comesBefore_48 : decode cX1_comesBefore 48 = .ok (.aload_n 0, 1) := by decide +kernel
theorem dX1_comesBefore_49 : decode cX1_comesBefore 49 = .ok (.getfield 28, 3) := by decide +kernel
theorem dX1_comesBefore_52 : decode cX1_comesBefore 52 = .ok (.iload_n 2, 1) := by decide +kernel
theorem dX1_comesBefore_53 : decode cX1_comesBefore 53 = .ok (.iaload, 1) := by decide +kernel
theorem dX1_comesBefore_54 : decode cX1_comesBefore 54 = .ok (.aload_n 0, 1) := by decide +kernel
theorem dX1_comesBefore_55 : decode cX1_comesBefore 55 = .ok (.getfield 25, 3) := by decide +kernel
theorem dX1_comesBefore_58 : decode cX1_comesBefore 58 = .ok (.iload_n 2, 1) := by decide +kernel
theorem dX1_comesBefore_59 : decode cX1_comesBefore 59 = .ok (.iaload, 1) := by decide +kernel
theorem dX1_comesBefore_60 : decode cX1_comesBefore 60 = .ok (.invokestatic 98, 3) := by decide +kernel
theorem dX1_comesBefore_63 : decode cX1_comesBefore 63 = .ok (.ireturn, 1) := by decide +kernel
theorem dX1_comesBefore_64 : decode cX1_comesBefore 64 = .ok (.iload 4, 2) := by decide +kernel
theorem dX1_comesBefore_66 : decode cX1_comesBefore 66 = .ok (.iconst (-1), 1) := by decide +kernel
theorem dX1_comesBefore_67 : decode cX1_comesBefore 67 = .ok (.if_icmp .eq 9, 3) := by decide +kernel
theorem dX1_comesBefore_70 : decode cX1_comesBefore 70 = .ok (.iload 5, 2) := by decide +kernel
theorem dX1_comesBefore_72 : decode cX1_comesBefore 72 = .ok (.iconst (-1), 1) := by decide +kernel
theorem dX1_comesBefore_73 : decode cX1_comesBefore 73 = .ok (.if_icmp .ne 15, 3) := by decide +kernel
theorem dX1_comesBefore_76 : decode cX1_comesBefore 76 = .ok (.iload 4, 2) := by decide +kernel
theorem dX1_comesBefore_78 : decode cX1_comesBefore 78 = .ok (.iconst (-1), 1) := by decide +kernel
theorem dX1_comesBefore_79 : decode cX1_comesBefore 79 = .ok (.if_icmp .eq 7, 3) := by decide +kernel
theorem dX1_comesBefore_82 : decode cX1_comesBefore 82 = .ok (.iconst 1, 1) := by decide +kernel
theorem dX1_comesBefore_83 : decode cX1_comesBefore 83 = .ok (.goto 4, 3) := by decide +kernel
theorem dX1_comesBefore_86 : decode cX1_comesBefore 86 = .ok (.iconst 0, 1) := by decide +kernel
theorem dX1_comesBefore_87 : decode cX1_comesBefore 87 = .ok (.ireturn, 1) := by decide +kernel
theorem dX1_comesBefore_88 : decode cX1_comesBefore 88 = .ok (.iload 4, 2) := by decide +kernel
theorem dX1_comesBefore_90 : decode cX1_comesBefore 90 = .ok (.aload_n 0, 1) := by decide +kernel
theorem dX1_comesBefore_91 : decode cX1_comesBefore 91 = .ok (.getfield 25, 3) := by decide +kernel
theorem dX1_comesBefore_94 : decode cX1_comesBefore 94 = .ok (.iload_n 1, 1) := by decide +kernel
theorem dX1_comesBefore_95 : decode cX1_comesBefore 95 = .ok (.iaload, 1) := by decide +kernel
theorem dX1_comesBefore_96 : decode cX1_comesBefore 96 = .ok (.iload 5, 2) := by decide +kernel
theorem dX1_comesBefore_98 : decode cX1_comesBefore 98 = .ok (.aload_n 0, 1) := by decide +kernel
theorem dX1_comesBefore_99 : decode cX1_comesBefore 99 = .ok (.getfield 25, 3) := by decide +kernel
theorem dX1_comesBefore_102 : decode cX1_comesBefore 102 = .ok (.iload_n 2, 1) := by decide +kernel
theorem dX1_comesBefore_103 : decode cX1_comesBefore 103 = .ok (.iaload, 1) := by decide +kernel
theorem dX1_comesBefore_104 : decode cX1_comesBefore 104 = .ok (.invokestatic 98, 3) := by decide +kernel
theorem dX1_comesBefore_107 : decode cX1_comesBefore 107 = .ok (.ireturn, 1) := by decide +kernel
theorem dX1_isLess_0 : decode cX1_isLess 0 = .ok (.iload_n 0, 1) := by decide +kernel
theorem dX1_isLess_1 : decode cX1_isLess 1 = .ok (.iload_n 2, 1) := by decide +kernel
theorem dX1_isLess_2 : decode cX1_isLess 2 = .ok (.if_icmp .eq 16, 3) := by decide +kernel
theorem dX1_isLess_5 : decode cX1_isLess 5 = .ok (.iload_n 0, 1) := by decide +kernel
theorem dX1_isLess_6 : decode cX1_isLess 6 = .ok (.iload_n 2, 1) := by decide +kernel
theorem dX1_isLess_7 : decode cX1_isLess 7 = .ok (.if_icmp .ge 7, 3) := by decide +kernel
theorem dX1_isLess_10 : decode cX1_isLess 10 = .ok (.iconst 1, 1) := by decide +kernel
theorem dX1_isLess_11 : decode cX1_isLess 11 = .ok (.goto 17, 3) := by decide +kernel
theorem dX1_isLess_14 : decode cX1_isLess 14 = .ok (.iconst 0, 1) := by decide +kernel
theorem dX1_isLess_15 : decode cX1_isLess 15 = .ok (.goto 13, 3) := by decide +kernel
theorem dX1_isLess_18 : decode cX1_isLess 18 = .ok (.iload_n 1, 1) := by decide +kernel
theorem dX1_isLess_19 : decode cX1_isLess 19 = .ok (.iload_n 3, 1) := by decide +kernel
theorem dX1_isLess_20 : decode cX1_isLess 20 = .ok (.if_icmp .ge 7, 3) := by decide +kernel
theorem dX1_isLess_23 : decode cX1_isLess 23 = .ok (.iconst 1, 1) := by decide +kernel
theorem dX1_isLess_24 : decode cX1_isLess 24 = .ok (.goto 4, 3) := by decide +kernel
theorem dX1_isLess_27 : decode cX1_isLess 27 = .ok (.iconst 0, 1) := by decide +kernel
theorem dX1_isLess_28 : decode cX1_isLess 28 = .ok (.ireturn, 1) := by decide +kernel
set_option maxRecDepth 20000 in
theorem ggX1_coverOpen_X1_nextCoverer : GoodIn wsX1_coverOpen wsX1_nextCoverer := goodIn_r _ [15, 2, 16, 17, 18, 19, 14, 20, 10, 8, 21, 22, 23, 24, 25, 26, 27, 7, 28, 29, 30, 31, 4, 32, 33, 34, 35, 36, 37, 38, 39, 1, 5, 9, 40, 41, 42, 43, 44, 45, 50, 51, 52, 53, 54, 55, 56, 57, 58, 59, 60, 61, 62, 63, 64] (by decide +kernel) (by decide +kernel)
set_option maxRecDepth 20000 in
theorem gX1_coverOpen_X1_nextCoverer : GoodIn wsX1_coverOpen (wsV RX1 102 RX1 yX1_nextCoverer wsX1_nextCoverer) := goodIn_app (goodIn_of _ (by decide +kernel)) ggX1_coverOpen_X1_nextCoverer
set_option maxRecDepth 20000 in
theorem ggX1_coverOpen_X2_bidIndex : GoodIn wsX1_coverOpen wsX2_bidIndex := goodIn_r _ [42] (by decide +kernel) (by decide +kernel)
