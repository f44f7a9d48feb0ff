def wsL_orders_r11 : List Cond := [Cond.selects RX8 yX8_goOut yX8_goOut, Cond.code yX8_goOut cX8_goOut 5 (some .int), Cond.fieldLink RX8 142 "TurnstileBank$Gate" "inner" "LTurnstileBank$Queue;", Cond.fieldLink RX8 145 "TurnstileBank$Queue" "length" "I", Cond.methodLink RX8 135 yX8_personAt, Cond.instanceMethod yX8_personAt, Cond.selects RX8 yX8_personAt yX8_personAt, Cond.code yX8_personAt cX8_personAt 2 (some (.object "TurnstileBank$Person")), Cond.methodLink RX9 91 yX8_letTicksGo, Cond.instanceMethod yX8_letTicksGo, Cond.selects RX8 yX8_letTicksGo yX8_letTicksGo, Cond.code yX8_letTicksGo cX8_letTicksGo 5 (some .int), Cond.static yX9_isBetween, Cond.code yX9_isBetween cX9_isBetween 3 (some .boolean), Cond.methodLink RX8 187 yX8_stepGate, Cond.instanceMethod yX8_stepGate, Cond.selects RX8 yX8_stepGate yX8_stepGate, Cond.code yX8_stepGate cX8_stepGate 3 (some .int), Cond.fieldLink RX8 163 "TurnstileBank$Gate" "state" "I", Cond.fieldLink RX8 196 "TurnstileBank$Gate" "left" "I", Cond.fieldLink RX8 206 "TurnstileBank$Gate" "closing" "I", Cond.fieldLink RX8 209 "TurnstileBank$Gate" "hold" "I", Cond.fieldLink RX8 169 "TurnstileBank$Gate" "person" "I", Cond.methodLink RX8 193 yX8_takeNext]
def wsL_orders_r12 : List Cond := [Cond.instanceMethod yX8_takeNext, Cond.selects RX8 yX8_takeNext yX8_takeNext, Cond.code yX8_takeNext cX8_takeNext 7 none, Cond.fieldLink RX8 224 "TurnstileBank$Person" "wantsOut" "Z", Cond.fieldLink RX8 230 "TurnstileBank$Person" "pass" "I", Cond.fieldLink RX8 221 "TurnstileBank$Gate" "pinchesOfPerson" "I", Cond.fieldLink RX8 269 "TurnstileBank$Gate" "opening" "I", Cond.methodLink RX8 248 yX8_nextQueue, Cond.instanceMethod yX8_nextQueue, Cond.selects RX8 yX8_nextQueue yX8_nextQueue, Cond.code yX8_nextQueue cX8_nextQueue 4 (some (.object "TurnstileBank$Queue")), Cond.fieldLink RX8 93 "TurnstileBank$Gate" "direction" "I", Cond.fieldLink RX8 272 "TurnstileBank$Person" "waitingSince" "I", Cond.methodLink RX8 156 yX7_personAtPlace, Cond.instanceMethod yX7_personAtPlace, Cond.selects RX7 yX7_personAtPlace yX7_personAtPlace, Cond.code yX7_personAtPlace cX7_personAtPlace 2 (some .int), Cond.methodLink RX8 252 yX7_dropFirst, Cond.instanceMethod yX7_dropFirst, Cond.selects RX7 yX7_dropFirst yX7_dropFirst, Cond.code yX7_dropFirst cX7_dropFirst 1 none, Cond.methodLink RX8 255 yX8_reasonToRefuse, Cond.instanceMethod yX8_reasonToRefuse, Cond.selects RX8 yX8_reasonToRefuse yX8_reasonToRefuse]
def wsL_orders_r13 : List Cond := [Cond.code yX8_reasonToRefuse cX8_reasonToRefuse 4 (some .int), Cond.fieldLink RX8 242 "TurnstileBank$Pass" "pool" "I", Cond.fieldLink RX8 115 "TurnstileBank$Pass" "blocked" "Z", Cond.fieldLink RX8 239 "TurnstileBank$Pass" "user" "I", Cond.fieldLink RX8 245 "TurnstileBank$Pool" "inside" "I", Cond.fieldLink RX8 275 "TurnstileBank$Pool" "limit" "I", Cond.fieldLink RX8 104 "TurnstileBank$Pool" "credit" "I", Cond.methodLink RX8 99 yX8_poolAt, Cond.instanceMethod yX8_poolAt, Cond.selects RX8 yX8_poolAt yX8_poolAt, Cond.code yX8_poolAt cX8_poolAt 2 (some (.object "TurnstileBank$Pool")), Cond.methodLink RX8 262 yX5_turnAway, Cond.instanceMethod yX5_turnAway, Cond.selects RX5 yX5_turnAway yX5_turnAway, Cond.code yX5_turnAway cX5_turnAway 2 none, Cond.methodLink RX8 184 yX0_add, Cond.instanceMethod yX0_add, Cond.selects RX0 yX0_add yX0_add, Cond.code yX0_add cX0_add 6 none, Cond.methodLink RX0 43 Lib.Math.min.name, Cond.methodLink RX0 37 yJ9_floorMod_7cf53, Cond.methodLink RX8 265 yX8_payFare, Cond.instanceMethod yX8_payFare, Cond.selects RX8 yX8_payFare yX8_payFare]
def wsL_orders_r14 : List Cond := [Cond.code yX8_payFare cX8_payFare 4 none, Cond.methodLink RX8 180 yX1_turnTo, Cond.instanceMethod yX1_turnTo, Cond.selects RX1 yX1_turnTo yX1_turnTo, Cond.code yX1_turnTo cX1_turnTo 3 none, Cond.methodLink RX8 199 yX8_stepClosing, Cond.instanceMethod yX8_stepClosing, Cond.selects RX8 yX8_stepClosing yX8_stepClosing, Cond.code yX8_stepClosing cX8_stepClosing 3 none, Cond.fieldLink RX8 166 "TurnstileBank$Gate" "pinchTold" "Z", Cond.fieldLink RX8 218 "TurnstileBank$Gate" "pinches" "I", Cond.methodLink RX8 172 yX8_breakDown, Cond.instanceMethod yX8_breakDown, Cond.selects RX8 yX8_breakDown yX8_breakDown, Cond.code yX8_breakDown cX8_breakDown 3 none, Cond.methodLink RX8 202 yX1_holdsPerson, Cond.instanceMethod yX1_holdsPerson, Cond.selects RX1 yX1_holdsPerson yX1_holdsPerson, Cond.code yX1_holdsPerson cX1_holdsPerson 1 (some .boolean), Cond.methodLink RX8 176 yX8_letThrough, Cond.instanceMethod yX8_letThrough, Cond.selects RX8 yX8_letThrough yX8_letThrough, Cond.code yX8_letThrough cX8_letThrough 5 (some .int), Cond.fieldLink RX8 160 "TurnstileBank$Person" "gate" "I"]
def wsL_orders_r15 : List Cond := [Cond.fieldLink RX8 227 "TurnstileBank$Gate" "passedOut" "I", Cond.fieldLink RX8 236 "TurnstileBank$Gate" "passedIn" "I", Cond.methodLink RX8 233 yX8_freePass, Cond.instanceMethod yX8_freePass, Cond.selects RX8 yX8_freePass yX8_freePass, Cond.code yX8_freePass cX8_freePass 3 none, Cond.methodLink RX8 212 yX8_extraTicks, Cond.instanceMethod yX8_extraTicks, Cond.selects RX8 yX8_extraTicks yX8_extraTicks, Cond.code yX8_extraTicks cX8_extraTicks 3 (some .int), Cond.fieldLink RX8 215 "TurnstileBank$Person" "slow" "Z", Cond.methodLink RX9 75 yX8_tellPinch, Cond.instanceMethod yX8_tellPinch, Cond.selects RX8 yX8_tellPinch yX8_tellPinch, Cond.code yX8_tellPinch cX8_tellPinch 3 (some .int), Cond.methodLink RX9 81 yX9_isError, Cond.static yX9_isError, Cond.code yX9_isError cX9_isError 1 (some .boolean), Cond.methodLink RL 63 yX9_type, Cond.instanceMethod yX9_type, Cond.selects RX9 yX9_type yX9_type, Cond.code yX9_type cX9_type 2 (some .int), Cond.methodLink RX9 94 yX3_append, Cond.instanceMethod yX3_append]
def wsL_orders_r16 : List Cond := [Cond.selects RX3 yX3_append yX3_append, Cond.code yX3_append cX3_append 2 (some .int), Cond.methodLink RL 73 yL_digits, Cond.static yL_digits, Cond.initialized RL, Cond.code yL_digits cL_digits 3 (some .int), Cond.methodLink RL 29 yX9_passOf, Cond.instanceMethod yX9_passOf, Cond.selects RX9 yX9_passOf yX9_passOf, Cond.code yX9_passOf cX9_passOf 4 (some .int), Cond.fieldLink RX9 231 "TurnstileBank$Pass" "pool" "I", Cond.fieldLink RX9 236 "TurnstileBank$Pass" "blocked" "Z", Cond.fieldLink RX9 239 "TurnstileBank$Pass" "user" "I", Cond.methodLink RX9 227 yX8_passAt, Cond.methodLink RL 15 yX9_person, Cond.instanceMethod yX9_person, Cond.selects RX9 yX9_person yX9_person, Cond.code yX9_person cX9_person 4 (some .int), Cond.fieldLink RX9 179 "TurnstileBank$Person" "where" "I", Cond.fieldLink RX9 184 "TurnstileBank$Person" "pass" "I", Cond.fieldLink RX9 187 "TurnstileBank$Person" "slow" "Z", Cond.fieldLink RX9 190 "TurnstileBank$Person" "gate" "I", Cond.fieldLink RX9 193 "TurnstileBank$Person" "refusal" "I", Cond.fieldLink RX9 203 "TurnstileBank$Person" "waitingSince" "I"]
def wsL_orders_r17 : List Cond := [Cond.methodLink RX9 175 yX8_personAt, Cond.methodLink RX9 196 yX5_isWaiting, Cond.instanceMethod yX5_isWaiting, Cond.selects RX5 yX5_isWaiting yX5_isWaiting, Cond.code yX5_isWaiting cX5_isWaiting 1 (some .boolean), Cond.methodLink RL 47 yX9_undo, Cond.instanceMethod yX9_undo, Cond.selects RX9 yX9_undo yX9_undo, Cond.code yX9_undo cX9_undo 1 (some .int), Cond.methodLink RX9 121 yX2_takeLatest, Cond.instanceMethod yX2_takeLatest, Cond.selects RX2 yX2_takeLatest yX2_takeLatest, Cond.code yX2_takeLatest cX2_takeLatest 1 (some (.object "TurnstileBank$State")), Cond.methodLink RX2 33 Lib.Math.max.name, Cond.static Lib.Math.max.name, Cond.code Lib.Math.max.name Lib.Math.max.code 2 (some .int), Cond.methodLink RX9 125 yX8_copyFrom]
def wsL_orders : List Cond := .code yL_orders cL_orders 12 (some .boolean) :: ((wsL_orders_r1 ++ (wsL_orders_r2 ++ (wsL_orders_r3 ++ (wsL_orders_r4 ++ (wsL_orders_r5 ++ (wsL_orders_r6 ++ (wsL_orders_r7 ++ (wsL_orders_r8 ++ (wsL_orders_r9 ++ (wsL_orders_r10 ++ (wsL_orders_r11 ++ (wsL_orders_r12 ++ (wsL_orders_r13 ++ (wsL_orders_r14 ++ (wsL_orders_r15 ++ (wsL_orders_r16 ++ wsL_orders_r17)))))))))))))))) ++ wsX90 ++ wsX80 ++ wsX20 ++ wsX30 ++ wsX50 ++ wsX10 ++ wsX60 ++ wsX70 ++ wsX40 ++ wsX00)
def wsL_errors_r1 : List Cond := [Cond.constant RL 89 (100001), Cond.methodLink RL 9 yX9_count, Cond.instanceMethod yX9_count, Cond.selects RX9 yX9_count yX9_count, Cond.initialized RX9, Cond.code yX9_count cX9_count 2 (some .int), Cond.fieldLink RX9 10 "TurnstileBank" "now" "LTurnstileBank$State;", Cond.fieldLink RX9 200 "TurnstileBank$State" "time" "I", Cond.fieldLink RX9 102 "TurnstileBank$State" "gateCount" "I", Cond.fieldLink RX9 254 "TurnstileBank$State" "personCount" "I", Cond.fieldLink RX9 266 "TurnstileBank$State" "fare" "I", Cond.fieldLink RX9 22 "TurnstileBank" "history" "LTurnstileBank$History;", Cond.fieldLink RX9 118 "TurnstileBank$History" "length" "I", Cond.fieldLink RX9 29 "TurnstileBank" "orders" "LTurnstileBank$Orders;", Cond.fieldLink RX9 272 "TurnstileBank$Orders" "length" "I", Cond.methodLink RX9 257 yX8_peopleWhoAre, Cond.instanceMethod yX8_peopleWhoAre, Cond.selects RX8 yX8_peopleWhoAre yX8_peopleWhoAre, Cond.initialized RX8, Cond.code yX8_peopleWhoAre cX8_peopleWhoAre 4 (some .int), Cond.fieldLink RX8 57 "TurnstileBank$State" "personCount" "I", Cond.fieldLink RX8 19 "TurnstileBank$State" "people" "[LTurnstileBank$Person;", Cond.fieldLink RX8 139 "TurnstileBank$Person" "where" "I", Cond.methodLink RX9 260 yX8_allRefusals]
def wsL_errors_r2 : List Cond := [Cond.instanceMethod yX8_allRefusals, Cond.selects RX8 yX8_allRefusals yX8_allRefusals, Cond.code yX8_allRefusals cX8_allRefusals 3 (some .int), Cond.fieldLink RX8 50 "TurnstileBank$State" "gateCount" "I", Cond.fieldLink RX8 11 "TurnstileBank$State" "gates" "[LTurnstileBank$Gate;", Cond.fieldLink RX8 259 "TurnstileBank$Gate" "refused" "I", Cond.methodLink RX9 263 yX8_allFares, Cond.instanceMethod yX8_allFares, Cond.selects RX8 yX8_allFares yX8_allFares, Cond.code yX8_allFares cX8_allFares 3 (some .int), Cond.fieldLink RX8 63 "TurnstileBank$State" "poolCount" "I", Cond.fieldLink RX8 25 "TurnstileBank$State" "pools" "[LTurnstileBank$Pool;", Cond.fieldLink RX8 278 "TurnstileBank$Pool" "paid" "I", Cond.methodLink RX9 269 yX8_busiestGate, Cond.instanceMethod yX8_busiestGate, Cond.selects RX8 yX8_busiestGate yX8_busiestGate, Cond.code yX8_busiestGate cX8_busiestGate 4 (some .int), Cond.methodLink RX8 148 yX1_queuesTogether, Cond.instanceMethod yX1_queuesTogether, Cond.selects RX1 yX1_queuesTogether yX1_queuesTogether, Cond.initialized RX1, Cond.code yX1_queuesTogether cX1_queuesTogether 1 (some .int), Cond.fieldLink RX1 12 "TurnstileBank$Gate" "outer" "LTurnstileBank$Queue;", Cond.fieldLink RX1 25 "TurnstileBank$Queue" "length" "I"]
def wsL_errors_r3 : List Cond := [Cond.fieldLink RX1 18 "TurnstileBank$Gate" "inner" "LTurnstileBank$Queue;", Cond.methodLink RL 76 yX9_addGate, Cond.instanceMethod yX9_addGate, Cond.selects RX9 yX9_addGate yX9_addGate, Cond.code yX9_addGate cX9_addGate 5 (some .int), Cond.methodLink RX9 33 yX2_prepare, Cond.instanceMethod yX2_prepare, Cond.selects RX2 yX2_prepare yX2_prepare, Cond.initialized RX2, Cond.code yX2_prepare cX2_prepare 2 none, Cond.fieldLink RX2 11 "TurnstileBank$History" "states" "[LTurnstileBank$State;", Cond.fieldLink RX2 18 "TurnstileBank$History" "length" "I", Cond.methodLink RX2 22 yX2_rowOf, Cond.instanceMethod yX2_rowOf, Cond.selects RX2 yX2_rowOf yX2_rowOf, Cond.code yX2_rowOf cX2_rowOf 2 (some .int), Cond.fieldLink RX2 30 "TurnstileBank$History" "oldest" "I", Cond.methodLink RX2 39 yJ9_floorMod_7cf53, Cond.static yJ9_floorMod_7cf53, Cond.initialized RJ9, Cond.code yJ9_floorMod_7cf53 cJ9_floorMod_7cf53 3 (some .int), Cond.methodLink RX2 26 yX8_copyFrom, Cond.instanceMethod yX8_copyFrom, Cond.selects RX8 yX8_copyFrom yX8_copyFrom]
def wsL_errors_r4 : List Cond := [Cond.code yX8_copyFrom cX8_copyFrom 3 none, Cond.fieldLink RX8 69 "TurnstileBank$State" "passCount" "I", Cond.fieldLink RX8 31 "TurnstileBank$State" "passes" "[LTurnstileBank$Pass;", Cond.fieldLink RX8 38 "TurnstileBank$State" "events" "LTurnstileBank$Events;", Cond.fieldLink RX8 78 "TurnstileBank$State" "time" "I", Cond.fieldLink RX8 42 "TurnstileBank$State" "fare" "I", Cond.methodLink RX8 53 yX1_copyFrom, Cond.instanceMethod yX1_copyFrom, Cond.selects RX1 yX1_copyFrom yX1_copyFrom, Cond.code yX1_copyFrom cX1_copyFrom 2 none, Cond.fieldLink RX1 28 "TurnstileBank$Gate" "direction" "I", Cond.fieldLink RX1 31 "TurnstileBank$Gate" "opening" "I", Cond.fieldLink RX1 34 "TurnstileBank$Gate" "hold" "I", Cond.fieldLink RX1 37 "TurnstileBank$Gate" "closing" "I", Cond.fieldLink RX1 40 "TurnstileBank$Gate" "state" "I", Cond.fieldLink RX1 43 "TurnstileBank$Gate" "left" "I", Cond.fieldLink RX1 21 "TurnstileBank$Gate" "person" "I", Cond.fieldLink RX1 46 "TurnstileBank$Gate" "pinchTold" "Z", Cond.fieldLink RX1 50 "TurnstileBank$Gate" "pinchesOfPerson" "I", Cond.fieldLink RX1 53 "TurnstileBank$Gate" "passedIn" "I", Cond.fieldLink RX1 56 "TurnstileBank$Gate" "passedOut" "I", Cond.fieldLink RX1 59 "TurnstileBank$Gate" "refused" "I", Cond.fieldLink RX1 62 "TurnstileBank$Gate" "pinches" "I", Cond.methodLink RX1 65 yX7_copyFrom]
def wsL_errors_r5 : List Cond := [Cond.instanceMethod yX7_copyFrom, Cond.selects RX7 yX7_copyFrom yX7_copyFrom, Cond.initialized RX7, Cond.code yX7_copyFrom cX7_copyFrom 2 none, Cond.fieldLink RX7 15 "TurnstileBank$Queue" "length" "I", Cond.fieldLink RX7 9 "TurnstileBank$Queue" "people" "[I", Cond.methodLink RX7 19 Lib.Math.min.name, Cond.static Lib.Math.min.name, Cond.initialized "java/lang/Math", Cond.code Lib.Math.min.name Lib.Math.min.code 2 (some .int), Cond.methodLink RX7 25 arraycopyName, Cond.native arraycopyName, Cond.static arraycopyName, Cond.initialized "java/lang/System", Cond.methodLink RX8 60 yX5_copyFrom, Cond.instanceMethod yX5_copyFrom, Cond.selects RX5 yX5_copyFrom yX5_copyFrom, Cond.initialized RX5, Cond.code yX5_copyFrom cX5_copyFrom 2 none, Cond.fieldLink RX5 9 "TurnstileBank$Person" "pass" "I", Cond.fieldLink RX5 15 "TurnstileBank$Person" "slow" "Z", Cond.fieldLink RX5 22 "TurnstileBank$Person" "where" "I", Cond.fieldLink RX5 25 "TurnstileBank$Person" "gate" "I", Cond.fieldLink RX5 19 "TurnstileBank$Person" "refusal" "I"]
def wsL_errors_r6 : List Cond := [Cond.fieldLink RX5 28 "TurnstileBank$Person" "waitingSince" "I", Cond.fieldLink RX5 31 "TurnstileBank$Person" "wantsOut" "Z", Cond.methodLink RX8 66 yX6_copyFrom, Cond.instanceMethod yX6_copyFrom, Cond.selects RX6 yX6_copyFrom yX6_copyFrom, Cond.initialized RX6, Cond.code yX6_copyFrom cX6_copyFrom 2 none, Cond.fieldLink RX6 7 "TurnstileBank$Pool" "credit" "I", Cond.fieldLink RX6 13 "TurnstileBank$Pool" "limit" "I", Cond.fieldLink RX6 16 "TurnstileBank$Pool" "inside" "I", Cond.fieldLink RX6 19 "TurnstileBank$Pool" "passes" "I", Cond.fieldLink RX6 22 "TurnstileBank$Pool" "paid" "I", Cond.methodLink RX8 72 yX4_copyFrom, Cond.instanceMethod yX4_copyFrom, Cond.selects RX4 yX4_copyFrom yX4_copyFrom, Cond.initialized RX4, Cond.code yX4_copyFrom cX4_copyFrom 2 none, Cond.fieldLink RX4 15 "TurnstileBank$Pass" "pool" "I", Cond.fieldLink RX4 18 "TurnstileBank$Pass" "blocked" "Z", Cond.fieldLink RX4 9 "TurnstileBank$Pass" "user" "I", Cond.methodLink RX8 75 yX0_copyFrom, Cond.instanceMethod yX0_copyFrom, Cond.selects RX0 yX0_copyFrom yX0_copyFrom, Cond.initialized RX0]
def wsL_errors_r7 : List Cond := [Cond.code yX0_copyFrom cX0_copyFrom 2 none, Cond.fieldLink RX0 9 "TurnstileBank$Events" "ticks" "[I", Cond.methodLink RX0 24 arraycopyName, Cond.fieldLink RX0 15 "TurnstileBank$Events" "gates" "[I", Cond.fieldLink RX0 18 "TurnstileBank$Events" "people" "[I", Cond.fieldLink RX0 21 "TurnstileBank$Events" "kinds" "[I", Cond.fieldLink RX0 30 "TurnstileBank$Events" "length" "I", Cond.fieldLink RX0 34 "TurnstileBank$Events" "next" "I", Cond.methodLink RX9 37 yX8_newGate, Cond.instanceMethod yX8_newGate, Cond.selects RX8 yX8_newGate yX8_newGate, Cond.code yX8_newGate cX8_newGate 5 (some .int), Cond.static yX9_isBetween, Cond.code yX9_isBetween cX9_isBetween 3 (some .boolean), Cond.methodLink RX8 85 yX1_setUp, Cond.instanceMethod yX1_setUp, Cond.selects RX1 yX1_setUp yX1_setUp, Cond.code yX1_setUp cX1_setUp 5 none, Cond.methodLink RX9 41 yX9_recorded, Cond.instanceMethod yX9_recorded, Cond.selects RX9 yX9_recorded yX9_recorded, Cond.code yX9_recorded cX9_recorded 2 (some .int), Cond.methodLink RX9 85 yX2_keep, Cond.instanceMethod yX2_keep]
def wsL_errors_r8 : List Cond := [Cond.selects RX2 yX2_keep yX2_keep, Cond.code yX2_keep cX2_keep 1 none, Cond.methodLink RL 80 yX9_setDirection, Cond.instanceMethod yX9_setDirection, Cond.selects RX9 yX9_setDirection yX9_setDirection, Cond.code yX9_setDirection cX9_setDirection 3 (some .int), Cond.methodLink RX9 45 yX8_turnGate, Cond.instanceMethod yX8_turnGate, Cond.selects RX8 yX8_turnGate yX8_turnGate, Cond.code yX8_turnGate cX8_turnGate 5 (some .int), Cond.fieldLink RX8 93 "TurnstileBank$Gate" "direction" "I", Cond.methodLink RX8 89 yX8_gateAt, Cond.instanceMethod yX8_gateAt, Cond.selects RX8 yX8_gateAt yX8_gateAt, Cond.code yX8_gateAt cX8_gateAt 2 (some (.object "TurnstileBank$Gate")), Cond.methodLink RL 83 yX9_addPool, Cond.instanceMethod yX9_addPool, Cond.selects RX9 yX9_addPool yX9_addPool, Cond.code yX9_addPool cX9_addPool 2 (some .int), Cond.methodLink RX9 49 yX8_newPool, Cond.instanceMethod yX8_newPool, Cond.selects RX8 yX8_newPool yX8_newPool, Cond.code yX8_newPool cX8_newPool 2 (some .int), Cond.methodLink RX8 96 yX6_setUp]
def wsL_errors_r9 : List Cond := [Cond.instanceMethod yX6_setUp, Cond.selects RX6 yX6_setUp yX6_setUp, Cond.code yX6_setUp cX6_setUp 2 none, Cond.methodLink RL 86 yX9_credit, Cond.instanceMethod yX9_credit, Cond.selects RX9 yX9_credit yX9_credit, Cond.code yX9_credit cX9_credit 3 (some .int), Cond.methodLink RX9 52 yX8_addCredit, Cond.instanceMethod yX8_addCredit, Cond.selects RX8 yX8_addCredit yX8_addCredit, Cond.code yX8_addCredit cX8_addCredit 4 (some .int), Cond.constant RX8 103 (100000), Cond.fieldLink RX8 104 "TurnstileBank$Pool" "credit" "I", Cond.constant RX8 107 (1000000), Cond.methodLink RX8 99 yX8_poolAt, Cond.instanceMethod yX8_poolAt, Cond.selects RX8 yX8_poolAt yX8_poolAt, Cond.code yX8_poolAt cX8_poolAt 2 (some (.object "TurnstileBank$Pool")), Cond.methodLink RL 90 yX9_addPass, Cond.instanceMethod yX9_addPass, Cond.selects RX9 yX9_addPass yX9_addPass, Cond.code yX9_addPass cX9_addPass 2 (some .int), Cond.methodLink RX9 55 yX8_newPass, Cond.instanceMethod yX8_newPass]
def wsL_errors_r10 : List Cond := [Cond.selects RX8 yX8_newPass yX8_newPass, Cond.code yX8_newPass cX8_newPass 3 (some .int), Cond.fieldLink RX8 109 "TurnstileBank$Pool" "passes" "I", Cond.methodLink RX8 108 yX4_setUp, Cond.instanceMethod yX4_setUp, Cond.selects RX4 yX4_setUp yX4_setUp, Cond.code yX4_setUp cX4_setUp 2 none, Cond.methodLink RL 93 yX9_block, Cond.instanceMethod yX9_block, Cond.selects RX9 yX9_block yX9_block, Cond.code yX9_block cX9_block 3 (some .int), Cond.methodLink RX9 58 yX8_markPass, Cond.instanceMethod yX8_markPass, Cond.selects RX8 yX8_markPass yX8_markPass, Cond.code yX8_markPass cX8_markPass 6 (some .int), Cond.fieldLink RX8 115 "TurnstileBank$Pass" "blocked" "Z", Cond.methodLink RX8 111 yX8_passAt, Cond.instanceMethod yX8_passAt, Cond.selects RX8 yX8_passAt yX8_passAt, Cond.code yX8_passAt cX8_passAt 2 (some (.object "TurnstileBank$Pass")), Cond.methodLink RL 97 yX9_setFare, Cond.instanceMethod yX9_setFare, Cond.selects RX9 yX9_setFare yX9_setFare, Cond.code yX9_setFare cX9_setFare 2 (some .int)]
def wsL_errors_r11 : List Cond := [Cond.methodLink RX9 62 yX8_changeFare, Cond.instanceMethod yX8_changeFare, Cond.selects RX8 yX8_changeFare yX8_changeFare, Cond.code yX8_changeFare cX8_changeFare 3 (some .int), Cond.methodLink RL 100 yX9_enter, Cond.instanceMethod yX9_enter, Cond.selects RX9 yX9_enter yX9_enter, Cond.code yX9_enter cX9_enter 4 (some .int), Cond.methodLink RX9 65 yX8_comeIn, Cond.instanceMethod yX8_comeIn, Cond.selects RX8 yX8_comeIn yX8_comeIn, Cond.code yX8_comeIn cX8_comeIn 5 (some .int), Cond.fieldLink RX8 126 "TurnstileBank$Gate" "outer" "LTurnstileBank$Queue;", Cond.methodLink RX8 119 yX5_setUp, Cond.instanceMethod yX5_setUp, Cond.selects RX5 yX5_setUp yX5_setUp, Cond.code yX5_setUp cX5_setUp 3 none, Cond.methodLink RX8 122 yX5_waitAt, Cond.instanceMethod yX5_waitAt, Cond.selects RX5 yX5_waitAt yX5_waitAt, Cond.code yX5_waitAt cX5_waitAt 4 none, Cond.methodLink RX8 130 yX7_append, Cond.instanceMethod yX7_append, Cond.selects RX7 yX7_append yX7_append]
def wsL_errors_r12 : List Cond := [Cond.code yX7_append cX7_append 2 none, Cond.methodLink RL 104 yX9_exit, Cond.instanceMethod yX9_exit, Cond.selects RX9 yX9_exit yX9_exit, Cond.code yX9_exit cX9_exit 3 (some .int), Cond.methodLink RX9 69 yX8_goOut, Cond.instanceMethod yX8_goOut, Cond.selects RX8 yX8_goOut yX8_goOut, Cond.code yX8_goOut cX8_goOut 5 (some .int), Cond.fieldLink RX8 142 "TurnstileBank$Gate" "inner" "LTurnstileBank$Queue;", Cond.fieldLink RX8 145 "TurnstileBank$Queue" "length" "I", Cond.methodLink RX8 135 yX8_personAt, Cond.instanceMethod yX8_personAt, Cond.selects RX8 yX8_personAt yX8_personAt, Cond.code yX8_personAt cX8_personAt 2 (some (.object "TurnstileBank$Person")), Cond.methodLink RL 60 yX9_divert, Cond.instanceMethod yX9_divert, Cond.selects RX9 yX9_divert yX9_divert, Cond.code yX9_divert cX9_divert 3 (some .int), Cond.methodLink RX9 72 yX8_moveQueues, Cond.instanceMethod yX8_moveQueues, Cond.selects RX8 yX8_moveQueues yX8_moveQueues, Cond.code yX8_moveQueues cX8_moveQueues 6 (some .int), Cond.methodLink RX8 152 yX8_moveQueue]
def wsL_errors_r13 : List Cond := [Cond.instanceMethod yX8_moveQueue, Cond.selects RX8 yX8_moveQueue yX8_moveQueue, Cond.code yX8_moveQueue cX8_moveQueue 7 none, Cond.fieldLink RX8 160 "TurnstileBank$Person" "gate" "I", Cond.methodLink RX8 156 yX7_personAtPlace, Cond.instanceMethod yX7_personAtPlace, Cond.selects RX7 yX7_personAtPlace yX7_personAtPlace, Cond.code yX7_personAtPlace cX7_personAtPlace 2 (some .int), Cond.methodLink RL 54 yX9_pinch, Cond.instanceMethod yX9_pinch, Cond.selects RX9 yX9_pinch yX9_pinch, Cond.code yX9_pinch cX9_pinch 2 (some .int), Cond.methodLink RX9 75 yX8_tellPinch, Cond.instanceMethod yX8_tellPinch, Cond.selects RX8 yX8_tellPinch yX8_tellPinch, Cond.code yX8_tellPinch cX8_tellPinch 3 (some .int), Cond.fieldLink RX8 163 "TurnstileBank$Gate" "state" "I", Cond.fieldLink RX8 166 "TurnstileBank$Gate" "pinchTold" "Z", Cond.methodLink RL 51 yX9_fail, Cond.instanceMethod yX9_fail, Cond.selects RX9 yX9_fail yX9_fail, Cond.code yX9_fail cX9_fail 3 (some .int), Cond.methodLink RX9 78 yX8_putOutOfOrder, Cond.instanceMethod yX8_putOutOfOrder]
def wsL_errors_r14 : List Cond := [Cond.selects RX8 yX8_putOutOfOrder yX8_putOutOfOrder, Cond.code yX8_putOutOfOrder cX8_putOutOfOrder 4 (some .int), Cond.fieldLink RX8 169 "TurnstileBank$Gate" "person" "I", Cond.methodLink RX8 172 yX8_breakDown, Cond.instanceMethod yX8_breakDown, Cond.selects RX8 yX8_breakDown yX8_breakDown, Cond.code yX8_breakDown cX8_breakDown 3 none, Cond.methodLink RX8 180 yX1_turnTo, Cond.instanceMethod yX1_turnTo, Cond.selects RX1 yX1_turnTo yX1_turnTo, Cond.code yX1_turnTo cX1_turnTo 3 none, Cond.methodLink RX8 184 yX0_add, Cond.instanceMethod yX0_add, Cond.selects RX0 yX0_add yX0_add, Cond.code yX0_add cX0_add 6 none, Cond.methodLink RX0 43 Lib.Math.min.name, Cond.methodLink RX0 37 yJ9_floorMod_7cf53, Cond.methodLink RX8 176 yX8_letThrough, Cond.instanceMethod yX8_letThrough, Cond.selects RX8 yX8_letThrough yX8_letThrough, Cond.code yX8_letThrough cX8_letThrough 5 (some .int), Cond.fieldLink RX8 224 "TurnstileBank$Person" "wantsOut" "Z", Cond.fieldLink RX8 227 "TurnstileBank$Gate" "passedOut" "I", Cond.fieldLink RX8 230 "TurnstileBank$Person" "pass" "I"]
def wsL_errors_r15 : List Cond := [Cond.fieldLink RX8 236 "TurnstileBank$Gate" "passedIn" "I", Cond.methodLink RX8 233 yX8_freePass, Cond.instanceMethod yX8_freePass, Cond.selects RX8 yX8_freePass yX8_freePass, Cond.code yX8_freePass cX8_freePass 3 none, Cond.fieldLink RX8 239 "TurnstileBank$Pass" "user" "I", Cond.fieldLink RX8 242 "TurnstileBank$Pass" "pool" "I", Cond.fieldLink RX8 245 "TurnstileBank$Pool" "inside" "I", Cond.methodLink RX9 81 yX9_isError, Cond.static yX9_isError, Cond.code yX9_isError cX9_isError 1 (some .boolean), Cond.methodLink RL 57 yX9_repair, Cond.instanceMethod yX9_repair, Cond.selects RX9 yX9_repair yX9_repair, Cond.code yX9_repair cX9_repair 2 (some .int), Cond.methodLink RX9 88 yX8_putInOrder, Cond.instanceMethod yX8_putInOrder, Cond.selects RX8 yX8_putInOrder yX8_putInOrder, Cond.code yX8_putInOrder cX8_putInOrder 3 (some .int), Cond.methodLink RL 38 yX9_pass, Cond.instanceMethod yX9_pass, Cond.selects RX9 yX9_pass yX9_pass, Cond.code yX9_pass cX9_pass 2 (some .int), Cond.methodLink RX9 91 yX8_letTicksGo]
def wsL_errors_r16 : List Cond := [Cond.instanceMethod yX8_letTicksGo, Cond.selects RX8 yX8_letTicksGo yX8_letTicksGo, Cond.code yX8_letTicksGo cX8_letTicksGo 5 (some .int), Cond.methodLink RX8 187 yX8_stepGate, Cond.instanceMethod yX8_stepGate, Cond.selects RX8 yX8_stepGate yX8_stepGate, Cond.code yX8_stepGate cX8_stepGate 3 (some .int), Cond.fieldLink RX8 196 "TurnstileBank$Gate" "left" "I", Cond.fieldLink RX8 206 "TurnstileBank$Gate" "closing" "I", Cond.fieldLink RX8 209 "TurnstileBank$Gate" "hold" "I", Cond.methodLink RX8 193 yX8_takeNext, Cond.instanceMethod yX8_takeNext, Cond.selects RX8 yX8_takeNext yX8_takeNext, Cond.code yX8_takeNext cX8_takeNext 7 none, Cond.fieldLink RX8 221 "TurnstileBank$Gate" "pinchesOfPerson" "I", Cond.fieldLink RX8 269 "TurnstileBank$Gate" "opening" "I", Cond.methodLink RX8 248 yX8_nextQueue, Cond.instanceMethod yX8_nextQueue, Cond.selects RX8 yX8_nextQueue yX8_nextQueue, Cond.code yX8_nextQueue cX8_nextQueue 4 (some (.object "TurnstileBank$Queue")), Cond.fieldLink RX8 272 "TurnstileBank$Person" "waitingSince" "I", Cond.methodLink RX8 252 yX7_dropFirst, Cond.instanceMethod yX7_dropFirst, Cond.selects RX7 yX7_dropFirst yX7_dropFirst]
def wsL_errors_r17 : List Cond := [Cond.code yX7_dropFirst cX7_dropFirst 1 none, Cond.methodLink RX8 255 yX8_reasonToRefuse, Cond.instanceMethod yX8_reasonToRefuse, Cond.selects RX8 yX8_reasonToRefuse yX8_reasonToRefuse, Cond.code yX8_reasonToRefuse cX8_reasonToRefuse 4 (some .int), Cond.fieldLink RX8 275 "TurnstileBank$Pool" "limit" "I", Cond.methodLink RX8 262 yX5_turnAway, Cond.instanceMethod yX5_turnAway, Cond.selects RX5 yX5_turnAway yX5_turnAway, Cond.code yX5_turnAway cX5_turnAway 2 none, Cond.methodLink RX8 265 yX8_payFare, Cond.instanceMethod yX8_payFare, Cond.selects RX8 yX8_payFare yX8_payFare, Cond.code yX8_payFare cX8_payFare 4 none, Cond.methodLink RX8 199 yX8_stepClosing, Cond.instanceMethod yX8_stepClosing, Cond.selects RX8 yX8_stepClosing yX8_stepClosing, Cond.code yX8_stepClosing cX8_stepClosing 3 none, Cond.fieldLink RX8 218 "TurnstileBank$Gate" "pinches" "I", Cond.methodLink RX8 202 yX1_holdsPerson, Cond.instanceMethod yX1_holdsPerson, Cond.selects RX1 yX1_holdsPerson yX1_holdsPerson, Cond.code yX1_holdsPerson cX1_holdsPerson 1 (some .boolean), Cond.methodLink RX8 212 yX8_extraTicks]
def wsL_errors_r18 : List Cond := [Cond.instanceMethod yX8_extraTicks, Cond.selects RX8 yX8_extraTicks yX8_extraTicks, Cond.code yX8_extraTicks cX8_extraTicks 3 (some .int), Cond.fieldLink RX8 215 "TurnstileBank$Person" "slow" "Z", Cond.methodLink RL 19 yX9_gate, Cond.instanceMethod yX9_gate, Cond.selects RX9 yX9_gate yX9_gate, Cond.code yX9_gate cX9_gate 4 (some .int), Cond.fieldLink RX9 132 "TurnstileBank$Gate" "direction" "I", Cond.fieldLink RX9 137 "TurnstileBank$Gate" "state" "I", Cond.fieldLink RX9 140 "TurnstileBank$Gate" "left" "I", Cond.fieldLink RX9 143 "TurnstileBank$Gate" "person" "I", Cond.fieldLink RX9 146 "TurnstileBank$Gate" "outer" "LTurnstileBank$Queue;", Cond.fieldLink RX9 150 "TurnstileBank$Queue" "length" "I", Cond.fieldLink RX9 153 "TurnstileBank$Gate" "inner" "LTurnstileBank$Queue;", Cond.fieldLink RX9 156 "TurnstileBank$Gate" "passedIn" "I", Cond.fieldLink RX9 159 "TurnstileBank$Gate" "passedOut" "I", Cond.fieldLink RX9 162 "TurnstileBank$Gate" "refused" "I", Cond.fieldLink RX9 165 "TurnstileBank$Gate" "pinches" "I", Cond.fieldLink RX9 168 "TurnstileBank$Gate" "pinchTold" "Z", Cond.methodLink RX9 128 yX8_gateAt, Cond.methodLink RL 22 yX9_queued, Cond.instanceMethod yX9_queued, Cond.selects RX9 yX9_queued yX9_queued]
def wsL_errors_r19 : List Cond := [Cond.code yX9_queued cX9_queued 5 (some .int), Cond.methodLink RX9 172 yX7_personAtPlace, Cond.methodLink RL 41 yX9_event, Cond.instanceMethod yX9_event, Cond.selects RX9 yX9_event yX9_event, Cond.code yX9_event cX9_event 3 (some .int), Cond.fieldLink RX9 242 "TurnstileBank$State" "events" "LTurnstileBank$Events;", Cond.methodLink RX9 246 yX0_property, Cond.instanceMethod yX0_property, Cond.selects RX0 yX0_property yX0_property, Cond.code yX0_property cX0_property 4 (some .int), Cond.methodLink RL 44 yX9_passesIn, Cond.instanceMethod yX9_passesIn, Cond.selects RX9 yX9_passesIn yX9_passesIn, Cond.code yX9_passesIn cX9_passesIn 3 (some .int), Cond.fieldLink RX9 179 "TurnstileBank$Person" "where" "I", Cond.fieldLink RX9 16 "TurnstileBank" "trial" "LTurnstileBank$State;", Cond.methodLink RX9 175 yX8_personAt, Cond.methodLink RX9 196 yX5_isWaiting, Cond.instanceMethod yX5_isWaiting, Cond.selects RX5 yX5_isWaiting yX5_isWaiting, Cond.code yX5_isWaiting cX5_isWaiting 1 (some .boolean), Cond.methodLink RX9 125 yX8_copyFrom, Cond.methodLink RX9 251 yX8_ticksUntilPassed]
def wsL_errors_r20 : List Cond := [Cond.instanceMethod yX8_ticksUntilPassed, Cond.selects RX8 yX8_ticksUntilPassed yX8_ticksUntilPassed, Cond.code yX8_ticksUntilPassed cX8_ticksUntilPassed 4 (some .int), Cond.methodLink RX8 190 yX8_letTicksGo]
def wsL_errors : List Cond := .code yL_errors cL_errors 4 (some .boolean) :: ((wsL_errors_r1 ++ (wsL_errors_r2 ++ (wsL_errors_r3 ++ (wsL_errors_r4 ++ (wsL_errors_r5 ++ (wsL_errors_r6 ++ (wsL_errors_r7 ++ (wsL_errors_r8 ++ (wsL_errors_r9 ++ (wsL_errors_r10 ++ (wsL_errors_r11 ++ (wsL_errors_r12 ++ (wsL_errors_r13 ++ (wsL_errors_r14 ++ (wsL_errors_r15 ++ (wsL_errors_r16 ++ (wsL_errors_r17 ++ (wsL_errors_r18 ++ (wsL_errors_r19 ++ wsL_errors_r20))))))))))))))))))) ++ wsX90 ++ wsX80 ++ wsX20 ++ wsX30 ++ wsX50 ++ wsX10 ++ wsX60 ++ wsX70 ++ wsX40 ++ wsX00)
def wsL_law_r1 : List Cond := [Cond.classLink RL 10 RX9, Cond.instantiable RX9 4, Cond.initialized RX9, Cond.methodLink RL 107 yX9_init, Cond.instanceMethod yX9_init, Cond.code yX9_init cX9_init 1 none, Cond.methodLink RX9 1 objectInit, Cond.instanceMethod objectInit, Cond.code objectInit ⟨#[0xb1]⟩ 1 none, Cond.classLink RX9 7 RX8, Cond.instantiable RX8 11, Cond.initialized RX8, Cond.fieldLink RX9 10 "TurnstileBank" "now" "LTurnstileBank$State;", Cond.fieldLink RX9 16 "TurnstileBank" "trial" "LTurnstileBank$State;", Cond.classLink RX9 19 RX2, Cond.instantiable RX2 3, Cond.initialized RX2, Cond.fieldLink RX9 22 "TurnstileBank" "history" "LTurnstileBank$History;", Cond.classLink RX9 26 RX3, Cond.instantiable RX3 7, Cond.initialized RX3, Cond.fieldLink RX9 29 "TurnstileBank" "orders" "LTurnstileBank$Orders;", Cond.methodLink RX9 9 yX8_init, Cond.instanceMethod yX8_init]
def wsL_law_r2 : List Cond := [Cond.code yX8_init cX8_init 2 none, Cond.methodLink RX8 3 objectInit, Cond.classLink RX8 9 RX1, Cond.fieldLink RX8 11 "TurnstileBank$State" "gates" "[LTurnstileBank$Gate;", Cond.classLink RX8 17 RX5, Cond.fieldLink RX8 19 "TurnstileBank$State" "people" "[LTurnstileBank$Person;", Cond.classLink RX8 23 RX6, Cond.fieldLink RX8 25 "TurnstileBank$State" "pools" "[LTurnstileBank$Pool;", Cond.classLink RX8 29 RX4, Cond.fieldLink RX8 31 "TurnstileBank$State" "passes" "[LTurnstileBank$Pass;", Cond.classLink RX8 35 RX0, Cond.instantiable RX0 6, Cond.initialized RX0, Cond.fieldLink RX8 38 "TurnstileBank$State" "events" "LTurnstileBank$Events;", Cond.fieldLink RX8 42 "TurnstileBank$State" "fare" "I", Cond.instantiable RX1 15, Cond.initialized RX1, Cond.instantiable RX5 7, Cond.initialized RX5, Cond.instantiable RX6 5, Cond.initialized RX6, Cond.instantiable RX4 3, Cond.initialized RX4, Cond.instanceMethod yX0_init]
def wsL_law_r3 : List Cond := [Cond.code yX0_init cX0_init 1 none, Cond.methodLink RX0 3 objectInit, Cond.arrayClass .int, Cond.fieldLink RX0 9 "TurnstileBank$Events" "ticks" "[I", Cond.fieldLink RX0 15 "TurnstileBank$Events" "gates" "[I", Cond.fieldLink RX0 18 "TurnstileBank$Events" "people" "[I", Cond.fieldLink RX0 21 "TurnstileBank$Events" "kinds" "[I", Cond.instanceMethod yX1_init, Cond.code yX1_init cX1_init 1 none, Cond.methodLink RX1 3 objectInit, Cond.classLink RX1 9 RX7, Cond.instantiable RX7 2, Cond.initialized RX7, Cond.fieldLink RX1 12 "TurnstileBank$Gate" "outer" "LTurnstileBank$Queue;", Cond.fieldLink RX1 18 "TurnstileBank$Gate" "inner" "LTurnstileBank$Queue;", Cond.fieldLink RX1 21 "TurnstileBank$Gate" "person" "I", Cond.instanceMethod yX7_init, Cond.code yX7_init cX7_init 1 none, Cond.methodLink RX7 3 objectInit, Cond.fieldLink RX7 9 "TurnstileBank$Queue" "people" "[I", Cond.instanceMethod yX5_init, Cond.code yX5_init cX5_init 1 none, Cond.methodLink RX5 3 objectInit, Cond.instanceMethod yX6_init]
def wsL_law_r4 : List Cond := [Cond.code yX6_init cX6_init 1 none, Cond.methodLink RX6 1 objectInit, Cond.instanceMethod yX4_init, Cond.code yX4_init cX4_init 1 none, Cond.methodLink RX4 3 objectInit, Cond.fieldLink RX4 9 "TurnstileBank$Pass" "user" "I", Cond.methodLink RX9 21 yX2_init, Cond.instanceMethod yX2_init, Cond.code yX2_init cX2_init 2 none, Cond.methodLink RX2 3 objectInit, Cond.classLink RX2 9 RX8, Cond.fieldLink RX2 11 "TurnstileBank$History" "states" "[LTurnstileBank$State;", Cond.methodLink RX2 17 yX8_init, Cond.instanceMethod yX3_init, Cond.code yX3_init cX3_init 1 none, Cond.methodLink RX3 3 objectInit, Cond.arrayClass .char, Cond.fieldLink RX3 9 "TurnstileBank$Orders" "letters" "[C", Cond.methodLink RL 108 yL_cell, Cond.static yL_cell, Cond.initialized RL, Cond.code yL_cell cL_cell 2 (some .int), Cond.constant RL 7 (9310009), Cond.methodLink RL 112 yL_low]
def wsL_law_r5 : List Cond := [Cond.static yL_low, Cond.code yL_low cL_low 2 (some .int), Cond.constant RL 8 (2147483647), Cond.methodLink RL 83 yX9_addPool, Cond.instanceMethod yX9_addPool, Cond.selects RX9 yX9_addPool yX9_addPool, Cond.code yX9_addPool cX9_addPool 2 (some .int), Cond.methodLink RX9 33 yX2_prepare, Cond.instanceMethod yX2_prepare, Cond.selects RX2 yX2_prepare yX2_prepare, Cond.code yX2_prepare cX2_prepare 2 none, Cond.fieldLink RX2 18 "TurnstileBank$History" "length" "I", Cond.methodLink RX2 22 yX2_rowOf, Cond.instanceMethod yX2_rowOf, Cond.selects RX2 yX2_rowOf yX2_rowOf, Cond.code yX2_rowOf cX2_rowOf 2 (some .int), Cond.fieldLink RX2 30 "TurnstileBank$History" "oldest" "I", Cond.methodLink RX2 39 yJ9_floorMod_7cf53, Cond.static yJ9_floorMod_7cf53, Cond.initialized RJ9, Cond.code yJ9_floorMod_7cf53 cJ9_floorMod_7cf53 3 (some .int), Cond.methodLink RX2 26 yX8_copyFrom, Cond.instanceMethod yX8_copyFrom, Cond.selects RX8 yX8_copyFrom yX8_copyFrom]
def wsL_law_r6 : List Cond := [Cond.code yX8_copyFrom cX8_copyFrom 3 none, Cond.fieldLink RX8 50 "TurnstileBank$State" "gateCount" "I", Cond.fieldLink RX8 57 "TurnstileBank$State" "personCount" "I", Cond.fieldLink RX8 63 "TurnstileBank$State" "poolCount" "I", Cond.fieldLink RX8 69 "TurnstileBank$State" "passCount" "I", Cond.fieldLink RX8 78 "TurnstileBank$State" "time" "I", Cond.methodLink RX8 53 yX1_copyFrom, Cond.instanceMethod yX1_copyFrom, Cond.selects RX1 yX1_copyFrom yX1_copyFrom, Cond.code yX1_copyFrom cX1_copyFrom 2 none, Cond.fieldLink RX1 28 "TurnstileBank$Gate" "direction" "I", Cond.fieldLink RX1 31 "TurnstileBank$Gate" "opening" "I", Cond.fieldLink RX1 34 "TurnstileBank$Gate" "hold" "I", Cond.fieldLink RX1 37 "TurnstileBank$Gate" "closing" "I", Cond.fieldLink RX1 40 "TurnstileBank$Gate" "state" "I", Cond.fieldLink RX1 43 "TurnstileBank$Gate" "left" "I", Cond.fieldLink RX1 46 "TurnstileBank$Gate" "pinchTold" "Z", Cond.fieldLink RX1 50 "TurnstileBank$Gate" "pinchesOfPerson" "I", Cond.fieldLink RX1 53 "TurnstileBank$Gate" "passedIn" "I", Cond.fieldLink RX1 56 "TurnstileBank$Gate" "passedOut" "I", Cond.fieldLink RX1 59 "TurnstileBank$Gate" "refused" "I", Cond.fieldLink RX1 62 "TurnstileBank$Gate" "pinches" "I", Cond.methodLink RX1 65 yX7_copyFrom, Cond.instanceMethod yX7_copyFrom]
def wsL_law_r7 : List Cond := [Cond.selects RX7 yX7_copyFrom yX7_copyFrom, Cond.code yX7_copyFrom cX7_copyFrom 2 none, Cond.fieldLink RX7 15 "TurnstileBank$Queue" "length" "I", Cond.methodLink RX7 19 Lib.Math.min.name, Cond.static Lib.Math.min.name, Cond.initialized "java/lang/Math", Cond.code Lib.Math.min.name Lib.Math.min.code 2 (some .int), Cond.methodLink RX7 25 arraycopyName, Cond.native arraycopyName, Cond.static arraycopyName, Cond.initialized "java/lang/System", Cond.methodLink RX8 60 yX5_copyFrom, Cond.instanceMethod yX5_copyFrom, Cond.selects RX5 yX5_copyFrom yX5_copyFrom, Cond.code yX5_copyFrom cX5_copyFrom 2 none, Cond.fieldLink RX5 9 "TurnstileBank$Person" "pass" "I", Cond.fieldLink RX5 15 "TurnstileBank$Person" "slow" "Z", Cond.fieldLink RX5 22 "TurnstileBank$Person" "where" "I", Cond.fieldLink RX5 25 "TurnstileBank$Person" "gate" "I", Cond.fieldLink RX5 19 "TurnstileBank$Person" "refusal" "I", Cond.fieldLink RX5 28 "TurnstileBank$Person" "waitingSince" "I", Cond.fieldLink RX5 31 "TurnstileBank$Person" "wantsOut" "Z", Cond.methodLink RX8 66 yX6_copyFrom, Cond.instanceMethod yX6_copyFrom]
def wsL_law_r8 : List Cond := [Cond.selects RX6 yX6_copyFrom yX6_copyFrom, Cond.code yX6_copyFrom cX6_copyFrom 2 none, Cond.fieldLink RX6 7 "TurnstileBank$Pool" "credit" "I", Cond.fieldLink RX6 13 "TurnstileBank$Pool" "limit" "I", Cond.fieldLink RX6 16 "TurnstileBank$Pool" "inside" "I", Cond.fieldLink RX6 19 "TurnstileBank$Pool" "passes" "I", Cond.fieldLink RX6 22 "TurnstileBank$Pool" "paid" "I", Cond.methodLink RX8 72 yX4_copyFrom, Cond.instanceMethod yX4_copyFrom, Cond.selects RX4 yX4_copyFrom yX4_copyFrom, Cond.code yX4_copyFrom cX4_copyFrom 2 none, Cond.fieldLink RX4 15 "TurnstileBank$Pass" "pool" "I", Cond.fieldLink RX4 18 "TurnstileBank$Pass" "blocked" "Z", Cond.methodLink RX8 75 yX0_copyFrom, Cond.instanceMethod yX0_copyFrom, Cond.selects RX0 yX0_copyFrom yX0_copyFrom, Cond.code yX0_copyFrom cX0_copyFrom 2 none, Cond.methodLink RX0 24 arraycopyName, Cond.fieldLink RX0 30 "TurnstileBank$Events" "length" "I", Cond.fieldLink RX0 34 "TurnstileBank$Events" "next" "I", Cond.methodLink RX9 49 yX8_newPool, Cond.instanceMethod yX8_newPool, Cond.selects RX8 yX8_newPool yX8_newPool, Cond.code yX8_newPool cX8_newPool 2 (some .int)]
def wsL_law_r9 : List Cond := [Cond.static yX9_isBetween, Cond.code yX9_isBetween cX9_isBetween 3 (some .boolean), Cond.methodLink RX8 96 yX6_setUp, Cond.instanceMethod yX6_setUp, Cond.selects RX6 yX6_setUp yX6_setUp, Cond.code yX6_setUp cX6_setUp 2 none, Cond.methodLink RX9 41 yX9_recorded, Cond.instanceMethod yX9_recorded, Cond.selects RX9 yX9_recorded yX9_recorded, Cond.code yX9_recorded cX9_recorded 2 (some .int), Cond.methodLink RX9 85 yX2_keep, Cond.instanceMethod yX2_keep, Cond.selects RX2 yX2_keep yX2_keep, Cond.code yX2_keep cX2_keep 1 none, Cond.methodLink RL 90 yX9_addPass, Cond.instanceMethod yX9_addPass, Cond.selects RX9 yX9_addPass yX9_addPass, Cond.code yX9_addPass cX9_addPass 2 (some .int), Cond.methodLink RX9 55 yX8_newPass, Cond.instanceMethod yX8_newPass, Cond.selects RX8 yX8_newPass yX8_newPass, Cond.code yX8_newPass cX8_newPass 3 (some .int), Cond.fieldLink RX8 109 "TurnstileBank$Pool" "passes" "I", Cond.methodLink RX8 99 yX8_poolAt]
def wsL_law_r10 : List Cond := [Cond.instanceMethod yX8_poolAt, Cond.selects RX8 yX8_poolAt yX8_poolAt, Cond.code yX8_poolAt cX8_poolAt 2 (some (.object "TurnstileBank$Pool")), Cond.methodLink RX8 108 yX4_setUp, Cond.instanceMethod yX4_setUp, Cond.selects RX4 yX4_setUp yX4_setUp, Cond.code yX4_setUp cX4_setUp 2 none, Cond.methodLink RL 86 yX9_credit, Cond.instanceMethod yX9_credit, Cond.selects RX9 yX9_credit yX9_credit, Cond.code yX9_credit cX9_credit 3 (some .int), Cond.methodLink RX9 52 yX8_addCredit, Cond.instanceMethod yX8_addCredit, Cond.selects RX8 yX8_addCredit yX8_addCredit, Cond.code yX8_addCredit cX8_addCredit 4 (some .int), Cond.constant RX8 103 (100000), Cond.fieldLink RX8 104 "TurnstileBank$Pool" "credit" "I", Cond.constant RX8 107 (1000000), Cond.methodLink RL 76 yX9_addGate, Cond.instanceMethod yX9_addGate, Cond.selects RX9 yX9_addGate yX9_addGate, Cond.code yX9_addGate cX9_addGate 5 (some .int), Cond.methodLink RX9 37 yX8_newGate, Cond.instanceMethod yX8_newGate]
def wsL_law_r11 : List Cond := [Cond.selects RX8 yX8_newGate yX8_newGate, Cond.code yX8_newGate cX8_newGate 5 (some .int), Cond.methodLink RX8 85 yX1_setUp, Cond.instanceMethod yX1_setUp, Cond.selects RX1 yX1_setUp yX1_setUp, Cond.code yX1_setUp cX1_setUp 5 none, Cond.fieldLink RX1 25 "TurnstileBank$Queue" "length" "I", Cond.methodLink RL 9 yX9_count, Cond.instanceMethod yX9_count, Cond.selects RX9 yX9_count yX9_count, Cond.code yX9_count cX9_count 2 (some .int), Cond.fieldLink RX9 200 "TurnstileBank$State" "time" "I", Cond.fieldLink RX9 102 "TurnstileBank$State" "gateCount" "I", Cond.fieldLink RX9 254 "TurnstileBank$State" "personCount" "I", Cond.fieldLink RX9 266 "TurnstileBank$State" "fare" "I", Cond.fieldLink RX9 118 "TurnstileBank$History" "length" "I", Cond.fieldLink RX9 272 "TurnstileBank$Orders" "length" "I", Cond.methodLink RX9 257 yX8_peopleWhoAre, Cond.instanceMethod yX8_peopleWhoAre, Cond.selects RX8 yX8_peopleWhoAre yX8_peopleWhoAre, Cond.code yX8_peopleWhoAre cX8_peopleWhoAre 4 (some .int), Cond.fieldLink RX8 139 "TurnstileBank$Person" "where" "I", Cond.methodLink RX9 260 yX8_allRefusals, Cond.instanceMethod yX8_allRefusals]
def wsL_law_r12 : List Cond := [Cond.selects RX8 yX8_allRefusals yX8_allRefusals, Cond.code yX8_allRefusals cX8_allRefusals 3 (some .int), Cond.fieldLink RX8 259 "TurnstileBank$Gate" "refused" "I", Cond.methodLink RX9 263 yX8_allFares, Cond.instanceMethod yX8_allFares, Cond.selects RX8 yX8_allFares yX8_allFares, Cond.code yX8_allFares cX8_allFares 3 (some .int), Cond.fieldLink RX8 278 "TurnstileBank$Pool" "paid" "I", Cond.methodLink RX9 269 yX8_busiestGate, Cond.instanceMethod yX8_busiestGate, Cond.selects RX8 yX8_busiestGate yX8_busiestGate, Cond.code yX8_busiestGate cX8_busiestGate 4 (some .int), Cond.methodLink RX8 148 yX1_queuesTogether, Cond.instanceMethod yX1_queuesTogether, Cond.selects RX1 yX1_queuesTogether yX1_queuesTogether, Cond.code yX1_queuesTogether cX1_queuesTogether 1 (some .int), Cond.methodLink RL 19 yX9_gate, Cond.instanceMethod yX9_gate, Cond.selects RX9 yX9_gate yX9_gate, Cond.code yX9_gate cX9_gate 4 (some .int), Cond.fieldLink RX9 132 "TurnstileBank$Gate" "direction" "I", Cond.fieldLink RX9 137 "TurnstileBank$Gate" "state" "I", Cond.fieldLink RX9 140 "TurnstileBank$Gate" "left" "I", Cond.fieldLink RX9 143 "TurnstileBank$Gate" "person" "I"]
def wsL_law_r13 : List Cond := [Cond.fieldLink RX9 146 "TurnstileBank$Gate" "outer" "LTurnstileBank$Queue;", Cond.fieldLink RX9 150 "TurnstileBank$Queue" "length" "I", Cond.fieldLink RX9 153 "TurnstileBank$Gate" "inner" "LTurnstileBank$Queue;", Cond.fieldLink RX9 156 "TurnstileBank$Gate" "passedIn" "I", Cond.fieldLink RX9 159 "TurnstileBank$Gate" "passedOut" "I", Cond.fieldLink RX9 162 "TurnstileBank$Gate" "refused" "I", Cond.fieldLink RX9 165 "TurnstileBank$Gate" "pinches" "I", Cond.fieldLink RX9 168 "TurnstileBank$Gate" "pinchTold" "Z", Cond.methodLink RX9 128 yX8_gateAt, Cond.instanceMethod yX8_gateAt, Cond.selects RX8 yX8_gateAt yX8_gateAt, Cond.code yX8_gateAt cX8_gateAt 2 (some (.object "TurnstileBank$Gate")), Cond.methodLink RL 80 yX9_setDirection, Cond.instanceMethod yX9_setDirection, Cond.selects RX9 yX9_setDirection yX9_setDirection, Cond.code yX9_setDirection cX9_setDirection 3 (some .int), Cond.methodLink RX9 45 yX8_turnGate, Cond.instanceMethod yX8_turnGate, Cond.selects RX8 yX8_turnGate yX8_turnGate, Cond.code yX8_turnGate cX8_turnGate 5 (some .int), Cond.fieldLink RX8 93 "TurnstileBank$Gate" "direction" "I", Cond.methodLink RX8 89 yX8_gateAt, Cond.methodLink RL 26 yX9_pool, Cond.instanceMethod yX9_pool]
def wsL_law_r14 : List Cond := [Cond.selects RX9 yX9_pool yX9_pool, Cond.code yX9_pool cX9_pool 4 (some .int), Cond.fieldLink RX9 210 "TurnstileBank$Pool" "credit" "I", Cond.fieldLink RX9 215 "TurnstileBank$Pool" "limit" "I", Cond.fieldLink RX9 218 "TurnstileBank$Pool" "inside" "I", Cond.fieldLink RX9 221 "TurnstileBank$Pool" "passes" "I", Cond.fieldLink RX9 224 "TurnstileBank$Pool" "paid" "I", Cond.methodLink RX9 206 yX8_poolAt, Cond.methodLink RL 29 yX9_passOf, Cond.instanceMethod yX9_passOf, Cond.selects RX9 yX9_passOf yX9_passOf, Cond.code yX9_passOf cX9_passOf 4 (some .int), Cond.fieldLink RX9 231 "TurnstileBank$Pass" "pool" "I", Cond.fieldLink RX9 236 "TurnstileBank$Pass" "blocked" "Z", Cond.fieldLink RX9 239 "TurnstileBank$Pass" "user" "I", Cond.methodLink RX9 227 yX8_passAt, Cond.instanceMethod yX8_passAt, Cond.selects RX8 yX8_passAt yX8_passAt, Cond.code yX8_passAt cX8_passAt 2 (some (.object "TurnstileBank$Pass")), Cond.methodLink RL 93 yX9_block, Cond.instanceMethod yX9_block, Cond.selects RX9 yX9_block yX9_block, Cond.code yX9_block cX9_block 3 (some .int), Cond.methodLink RX9 58 yX8_markPass]
def wsL_law_r15 : List Cond := [Cond.instanceMethod yX8_markPass, Cond.selects RX8 yX8_markPass yX8_markPass, Cond.code yX8_markPass cX8_markPass 6 (some .int), Cond.fieldLink RX8 115 "TurnstileBank$Pass" "blocked" "Z", Cond.methodLink RX8 111 yX8_passAt, Cond.methodLink RL 97 yX9_setFare, Cond.instanceMethod yX9_setFare, Cond.selects RX9 yX9_setFare yX9_setFare, Cond.code yX9_setFare cX9_setFare 2 (some .int), Cond.methodLink RX9 62 yX8_changeFare, Cond.instanceMethod yX8_changeFare, Cond.selects RX8 yX8_changeFare yX8_changeFare, Cond.code yX8_changeFare cX8_changeFare 3 (some .int), Cond.methodLink RL 100 yX9_enter, Cond.instanceMethod yX9_enter, Cond.selects RX9 yX9_enter yX9_enter, Cond.code yX9_enter cX9_enter 4 (some .int), Cond.methodLink RX9 65 yX8_comeIn, Cond.instanceMethod yX8_comeIn, Cond.selects RX8 yX8_comeIn yX8_comeIn, Cond.code yX8_comeIn cX8_comeIn 5 (some .int), Cond.fieldLink RX8 126 "TurnstileBank$Gate" "outer" "LTurnstileBank$Queue;", Cond.methodLink RX8 119 yX5_setUp, Cond.instanceMethod yX5_setUp]
def wsL_law_r16 : List Cond := [Cond.selects RX5 yX5_setUp yX5_setUp, Cond.code yX5_setUp cX5_setUp 3 none, Cond.methodLink RX8 122 yX5_waitAt, Cond.instanceMethod yX5_waitAt, Cond.selects RX5 yX5_waitAt yX5_waitAt, Cond.code yX5_waitAt cX5_waitAt 4 none, Cond.methodLink RX8 130 yX7_append, Cond.instanceMethod yX7_append, Cond.selects RX7 yX7_append yX7_append, Cond.code yX7_append cX7_append 2 none, Cond.methodLink RL 15 yX9_person, Cond.instanceMethod yX9_person, Cond.selects RX9 yX9_person yX9_person, Cond.code yX9_person cX9_person 4 (some .int), Cond.fieldLink RX9 179 "TurnstileBank$Person" "where" "I", Cond.fieldLink RX9 184 "TurnstileBank$Person" "pass" "I", Cond.fieldLink RX9 187 "TurnstileBank$Person" "slow" "Z", Cond.fieldLink RX9 190 "TurnstileBank$Person" "gate" "I", Cond.fieldLink RX9 193 "TurnstileBank$Person" "refusal" "I", Cond.fieldLink RX9 203 "TurnstileBank$Person" "waitingSince" "I", Cond.methodLink RX9 175 yX8_personAt, Cond.instanceMethod yX8_personAt, Cond.selects RX8 yX8_personAt yX8_personAt, Cond.code yX8_personAt cX8_personAt 2 (some (.object "TurnstileBank$Person"))]
def wsL_law_r17 : List Cond := [Cond.methodLink RX9 196 yX5_isWaiting, Cond.instanceMethod yX5_isWaiting, Cond.selects RX5 yX5_isWaiting yX5_isWaiting, Cond.code yX5_isWaiting cX5_isWaiting 1 (some .boolean), Cond.methodLink RL 104 yX9_exit, Cond.instanceMethod yX9_exit, Cond.selects RX9 yX9_exit yX9_exit, Cond.code yX9_exit cX9_exit 3 (some .int), Cond.methodLink RX9 69 yX8_goOut, Cond.instanceMethod yX8_goOut, Cond.selects RX8 yX8_goOut yX8_goOut, Cond.code yX8_goOut cX8_goOut 5 (some .int), Cond.fieldLink RX8 142 "TurnstileBank$Gate" "inner" "LTurnstileBank$Queue;", Cond.fieldLink RX8 145 "TurnstileBank$Queue" "length" "I", Cond.methodLink RX8 135 yX8_personAt, Cond.methodLink RL 54 yX9_pinch, Cond.instanceMethod yX9_pinch, Cond.selects RX9 yX9_pinch yX9_pinch, Cond.code yX9_pinch cX9_pinch 2 (some .int), Cond.methodLink RX9 75 yX8_tellPinch, Cond.instanceMethod yX8_tellPinch, Cond.selects RX8 yX8_tellPinch yX8_tellPinch, Cond.code yX8_tellPinch cX8_tellPinch 3 (some .int), Cond.fieldLink RX8 163 "TurnstileBank$Gate" "state" "I"]
def wsL_law_r18 : List Cond := [Cond.fieldLink RX8 166 "TurnstileBank$Gate" "pinchTold" "Z", Cond.methodLink RL 115 yL_tick, Cond.static yL_tick, Cond.code yL_tick cL_tick 20 (some .boolean), Cond.methodLink RL 22 yX9_queued, Cond.instanceMethod yX9_queued, Cond.selects RX9 yX9_queued yX9_queued, Cond.code yX9_queued cX9_queued 5 (some .int), Cond.methodLink RX9 172 yX7_personAtPlace, Cond.instanceMethod yX7_personAtPlace, Cond.selects RX7 yX7_personAtPlace yX7_personAtPlace, Cond.code yX7_personAtPlace cX7_personAtPlace 2 (some .int), Cond.methodLink RL 32 yL_refusal, Cond.static yL_refusal, Cond.code yL_refusal cL_refusal 4 (some .int), Cond.methodLink RL 38 yX9_pass, Cond.instanceMethod yX9_pass, Cond.selects RX9 yX9_pass yX9_pass, Cond.code yX9_pass cX9_pass 2 (some .int), Cond.methodLink RX9 91 yX8_letTicksGo, Cond.instanceMethod yX8_letTicksGo, Cond.selects RX8 yX8_letTicksGo yX8_letTicksGo, Cond.code yX8_letTicksGo cX8_letTicksGo 5 (some .int), Cond.methodLink RX8 187 yX8_stepGate]
def wsL_law_r19 : List Cond := [Cond.instanceMethod yX8_stepGate, Cond.selects RX8 yX8_stepGate yX8_stepGate, Cond.code yX8_stepGate cX8_stepGate 3 (some .int), Cond.fieldLink RX8 196 "TurnstileBank$Gate" "left" "I", Cond.fieldLink RX8 206 "TurnstileBank$Gate" "closing" "I", Cond.fieldLink RX8 209 "TurnstileBank$Gate" "hold" "I", Cond.fieldLink RX8 169 "TurnstileBank$Gate" "person" "I", Cond.methodLink RX8 193 yX8_takeNext, Cond.instanceMethod yX8_takeNext, Cond.selects RX8 yX8_takeNext yX8_takeNext, Cond.code yX8_takeNext cX8_takeNext 7 none, Cond.fieldLink RX8 224 "TurnstileBank$Person" "wantsOut" "Z", Cond.fieldLink RX8 230 "TurnstileBank$Person" "pass" "I", Cond.fieldLink RX8 221 "TurnstileBank$Gate" "pinchesOfPerson" "I", Cond.fieldLink RX8 269 "TurnstileBank$Gate" "opening" "I", Cond.methodLink RX8 248 yX8_nextQueue, Cond.instanceMethod yX8_nextQueue, Cond.selects RX8 yX8_nextQueue yX8_nextQueue, Cond.code yX8_nextQueue cX8_nextQueue 4 (some (.object "TurnstileBank$Queue")), Cond.fieldLink RX8 272 "TurnstileBank$Person" "waitingSince" "I", Cond.methodLink RX8 156 yX7_personAtPlace, Cond.methodLink RX8 252 yX7_dropFirst, Cond.instanceMethod yX7_dropFirst, Cond.selects RX7 yX7_dropFirst yX7_dropFirst]
def wsL_law_r20 : List Cond := [Cond.code yX7_dropFirst cX7_dropFirst 1 none, Cond.methodLink RX8 255 yX8_reasonToRefuse, Cond.instanceMethod yX8_reasonToRefuse, Cond.selects RX8 yX8_reasonToRefuse yX8_reasonToRefuse, Cond.code yX8_reasonToRefuse cX8_reasonToRefuse 4 (some .int), Cond.fieldLink RX8 242 "TurnstileBank$Pass" "pool" "I", Cond.fieldLink RX8 239 "TurnstileBank$Pass" "user" "I", Cond.fieldLink RX8 245 "TurnstileBank$Pool" "inside" "I", Cond.fieldLink RX8 275 "TurnstileBank$Pool" "limit" "I", Cond.methodLink RX8 262 yX5_turnAway, Cond.instanceMethod yX5_turnAway, Cond.selects RX5 yX5_turnAway yX5_turnAway, Cond.code yX5_turnAway cX5_turnAway 2 none, Cond.methodLink RX8 184 yX0_add, Cond.instanceMethod yX0_add, Cond.selects RX0 yX0_add yX0_add, Cond.code yX0_add cX0_add 6 none, Cond.methodLink RX0 43 Lib.Math.min.name, Cond.methodLink RX0 37 yJ9_floorMod_7cf53, Cond.methodLink RX8 265 yX8_payFare, Cond.instanceMethod yX8_payFare, Cond.selects RX8 yX8_payFare yX8_payFare, Cond.code yX8_payFare cX8_payFare 4 none, Cond.methodLink RX8 180 yX1_turnTo]
def wsL_law_r21 : List Cond := [Cond.instanceMethod yX1_turnTo, Cond.selects RX1 yX1_turnTo yX1_turnTo, Cond.code yX1_turnTo cX1_turnTo 3 none, Cond.methodLink RX8 199 yX8_stepClosing, Cond.instanceMethod yX8_stepClosing, Cond.selects RX8 yX8_stepClosing yX8_stepClosing, Cond.code yX8_stepClosing cX8_stepClosing 3 none, Cond.fieldLink RX8 218 "TurnstileBank$Gate" "pinches" "I", Cond.methodLink RX8 172 yX8_breakDown, Cond.instanceMethod yX8_breakDown, Cond.selects RX8 yX8_breakDown yX8_breakDown, Cond.code yX8_breakDown cX8_breakDown 3 none, Cond.methodLink RX8 202 yX1_holdsPerson, Cond.instanceMethod yX1_holdsPerson, Cond.selects RX1 yX1_holdsPerson yX1_holdsPerson, Cond.code yX1_holdsPerson cX1_holdsPerson 1 (some .boolean), Cond.methodLink RX8 176 yX8_letThrough, Cond.instanceMethod yX8_letThrough, Cond.selects RX8 yX8_letThrough yX8_letThrough, Cond.code yX8_letThrough cX8_letThrough 5 (some .int), Cond.fieldLink RX8 160 "TurnstileBank$Person" "gate" "I", Cond.fieldLink RX8 227 "TurnstileBank$Gate" "passedOut" "I", Cond.fieldLink RX8 236 "TurnstileBank$Gate" "passedIn" "I", Cond.methodLink RX8 233 yX8_freePass]
def wsL_law_r22 : List Cond := [Cond.instanceMethod yX8_freePass, Cond.selects RX8 yX8_freePass yX8_freePass, Cond.code yX8_freePass cX8_freePass 3 none, Cond.methodLink RX8 212 yX8_extraTicks, Cond.instanceMethod yX8_extraTicks, Cond.selects RX8 yX8_extraTicks yX8_extraTicks, Cond.code yX8_extraTicks cX8_extraTicks 3 (some .int), Cond.fieldLink RX8 215 "TurnstileBank$Person" "slow" "Z", Cond.methodLink RL 41 yX9_event, Cond.instanceMethod yX9_event, Cond.selects RX9 yX9_event yX9_event, Cond.code yX9_event cX9_event 3 (some .int), Cond.fieldLink RX9 242 "TurnstileBank$State" "events" "LTurnstileBank$Events;", Cond.methodLink RX9 246 yX0_property, Cond.instanceMethod yX0_property, Cond.selects RX0 yX0_property yX0_property, Cond.code yX0_property cX0_property 4 (some .int), Cond.methodLink RL 119 yL_ahead, Cond.static yL_ahead, Cond.code yL_ahead cL_ahead 5 (some .boolean), Cond.methodLink RL 44 yX9_passesIn, Cond.instanceMethod yX9_passesIn, Cond.selects RX9 yX9_passesIn yX9_passesIn, Cond.code yX9_passesIn cX9_passesIn 3 (some .int)]
def wsL_law_r23 : List Cond := [Cond.methodLink RX9 125 yX8_copyFrom, Cond.methodLink RX9 251 yX8_ticksUntilPassed, Cond.instanceMethod yX8_ticksUntilPassed, Cond.selects RX8 yX8_ticksUntilPassed yX8_ticksUntilPassed, Cond.code yX8_ticksUntilPassed cX8_ticksUntilPassed 4 (some .int), Cond.methodLink RX8 190 yX8_letTicksGo, Cond.methodLink RL 47 yX9_undo, Cond.instanceMethod yX9_undo, Cond.selects RX9 yX9_undo yX9_undo, Cond.code yX9_undo cX9_undo 1 (some .int), Cond.methodLink RX9 121 yX2_takeLatest, Cond.instanceMethod yX2_takeLatest, Cond.selects RX2 yX2_takeLatest yX2_takeLatest, Cond.code yX2_takeLatest cX2_takeLatest 1 (some (.object "TurnstileBank$State")), Cond.methodLink RX2 33 Lib.Math.max.name, Cond.static Lib.Math.max.name, Cond.code Lib.Math.max.name Lib.Math.max.code 2 (some .int), Cond.methodLink RL 122 yL_fails, Cond.static yL_fails, Cond.code yL_fails cL_fails 7 (some .boolean), Cond.methodLink RL 51 yX9_fail, Cond.instanceMethod yX9_fail, Cond.selects RX9 yX9_fail yX9_fail, Cond.code yX9_fail cX9_fail 3 (some .int)]
def wsL_law_r24 : List Cond := [Cond.methodLink RX9 78 yX8_putOutOfOrder, Cond.instanceMethod yX8_putOutOfOrder, Cond.selects RX8 yX8_putOutOfOrder yX8_putOutOfOrder, Cond.code yX8_putOutOfOrder cX8_putOutOfOrder 4 (some .int), Cond.methodLink RX9 81 yX9_isError, Cond.static yX9_isError, Cond.code yX9_isError cX9_isError 1 (some .boolean), Cond.methodLink RL 57 yX9_repair, Cond.instanceMethod yX9_repair, Cond.selects RX9 yX9_repair yX9_repair, Cond.code yX9_repair cX9_repair 2 (some .int), Cond.methodLink RX9 88 yX8_putInOrder, Cond.instanceMethod yX8_putInOrder, Cond.selects RX8 yX8_putInOrder yX8_putInOrder, Cond.code yX8_putInOrder cX8_putInOrder 3 (some .int), Cond.methodLink RL 125 yL_diverts, Cond.static yL_diverts, Cond.code yL_diverts cL_diverts 9 (some .boolean), Cond.methodLink RL 60 yX9_divert, Cond.instanceMethod yX9_divert, Cond.selects RX9 yX9_divert yX9_divert, Cond.code yX9_divert cX9_divert 3 (some .int), Cond.methodLink RX9 72 yX8_moveQueues, Cond.instanceMethod yX8_moveQueues]
def wsL_law_r25 : List Cond := [Cond.selects RX8 yX8_moveQueues yX8_moveQueues, Cond.code yX8_moveQueues cX8_moveQueues 6 (some .int), Cond.methodLink RX8 152 yX8_moveQueue, Cond.instanceMethod yX8_moveQueue, Cond.selects RX8 yX8_moveQueue yX8_moveQueue, Cond.code yX8_moveQueue cX8_moveQueue 7 none, Cond.methodLink RL 129 yL_orders, Cond.static yL_orders, Cond.code yL_orders cL_orders 12 (some .boolean), Cond.methodLink RL 67 yX9_clearText, Cond.instanceMethod yX9_clearText, Cond.selects RX9 yX9_clearText yX9_clearText, Cond.code yX9_clearText cX9_clearText 1 (some .int), Cond.methodLink RX9 98 yX3_erase, Cond.instanceMethod yX3_erase, Cond.selects RX3 yX3_erase yX3_erase, Cond.code yX3_erase cX3_erase 2 (some .int), Cond.fieldLink RX3 15 "TurnstileBank$Orders" "length" "I", Cond.methodLink RL 70 yX9_run, Cond.instanceMethod yX9_run, Cond.selects RX9 yX9_run yX9_run, Cond.code yX9_run cX9_run 3 (some .int), Cond.methodLink RX9 106 yX3_findFault, Cond.instanceMethod yX3_findFault]
def wsL_law_r26 : List Cond := [Cond.selects RX3 yX3_findFault yX3_findFault, Cond.code yX3_findFault cX3_findFault 3 (some .int), Cond.fieldLink RX3 19 "TurnstileBank$Orders" "place" "I", Cond.methodLink RX3 22 yX3_restart, Cond.instanceMethod yX3_restart, Cond.selects RX3 yX3_restart yX3_restart, Cond.code yX3_restart cX3_restart 1 none, Cond.methodLink RX3 25 yX3_readOrder, Cond.instanceMethod yX3_readOrder, Cond.selects RX3 yX3_readOrder yX3_readOrder, Cond.code yX3_readOrder cX3_readOrder 2 (some .boolean), Cond.fieldLink RX3 33 "TurnstileBank$Orders" "kind" "I", Cond.methodLink RX3 29 yX3_letterHere, Cond.instanceMethod yX3_letterHere, Cond.selects RX3 yX3_letterHere yX3_letterHere, Cond.code yX3_letterHere cX3_letterHere 1 (some .int), Cond.methodLink RX3 36 yX3_readNumber, Cond.instanceMethod yX3_readNumber, Cond.selects RX3 yX3_readNumber yX3_readNumber, Cond.code yX3_readNumber cX3_readNumber 4 (some .boolean), Cond.fieldLink RX3 53 "TurnstileBank$Orders" "number" "I", Cond.methodLink RX3 39 yX3_readGate, Cond.instanceMethod yX3_readGate, Cond.selects RX3 yX3_readGate yX3_readGate]
def wsL_law_r27 : List Cond := [Cond.code yX3_readGate cX3_readGate 2 (some .boolean), Cond.fieldLink RX3 50 "TurnstileBank$Orders" "gate" "I", Cond.methodLink RX3 42 yX3_readPassAndPace, Cond.instanceMethod yX3_readPassAndPace, Cond.selects RX3 yX3_readPassAndPace yX3_readPassAndPace, Cond.code yX3_readPassAndPace cX3_readPassAndPace 1 (some .boolean), Cond.fieldLink RX3 56 "TurnstileBank$Orders" "slow" "Z", Cond.methodLink RX3 46 yX3_skip, Cond.instanceMethod yX3_skip, Cond.selects RX3 yX3_skip yX3_skip, Cond.code yX3_skip cX3_skip 2 (some .boolean), Cond.methodLink RX9 109 yX3_restart, Cond.methodLink RX9 112 yX3_readOrder, Cond.methodLink RX9 115 yX9_carryOut, Cond.instanceMethod yX9_carryOut, Cond.selects RX9 yX9_carryOut yX9_carryOut, Cond.code yX9_carryOut cX9_carryOut 1 (some .int), Cond.fieldLink RX9 273 "TurnstileBank$Orders" "kind" "I", Cond.fieldLink RX9 276 "TurnstileBank$Orders" "gate" "I", Cond.fieldLink RX9 277 "TurnstileBank$Orders" "number" "I", Cond.fieldLink RX9 280 "TurnstileBank$Orders" "slow" "Z", Cond.methodLink RL 63 yX9_type, Cond.instanceMethod yX9_type, Cond.selects RX9 yX9_type yX9_type]
def wsL_law_r28 : List Cond := [Cond.code yX9_type cX9_type 2 (some .int), Cond.methodLink RX9 94 yX3_append, Cond.instanceMethod yX3_append, Cond.selects RX3 yX3_append yX3_append, Cond.code yX3_append cX3_append 2 (some .int), Cond.methodLink RL 73 yL_digits, Cond.static yL_digits, Cond.code yL_digits cL_digits 3 (some .int), Cond.methodLink RL 133 yL_people, Cond.static yL_people, Cond.code yL_people cL_people 10 (some .boolean), Cond.methodLink RL 137 yL_pools, Cond.static yL_pools, Cond.code yL_pools cL_pools 8 (some .boolean), Cond.methodLink RL 140 yL_errors, Cond.static yL_errors, Cond.code yL_errors cL_errors 4 (some .boolean), Cond.constant RL 89 (100001)]
def wsL_law : List Cond := (wsL_law_r1 ++ (wsL_law_r2 ++ (wsL_law_r3 ++ (wsL_law_r4 ++ (wsL_law_r5 ++ (wsL_law_r6 ++ (wsL_law_r7 ++ (wsL_law_r8 ++ (wsL_law_r9 ++ (wsL_law_r10 ++ (wsL_law_r11 ++ (wsL_law_r12 ++ (wsL_law_r13 ++ (wsL_law_r14 ++ (wsL_law_r15 ++ (wsL_law_r16 ++ (wsL_law_r17 ++ (wsL_law_r18 ++ (wsL_law_r19 ++ (wsL_law_r20 ++ (wsL_law_r21 ++ (wsL_law_r22 ++ (wsL_law_r23 ++ (wsL_law_r24 ++ (wsL_law_r25 ++ (wsL_law_r26 ++ (wsL_law_r27 ++ wsL_law_r28))))))))))))))))))))))))))) ++ wsX90 ++ wsX80 ++ wsX20 ++ wsX30 ++ wsX00 ++ wsX10 ++ wsX50 ++ wsX60 ++ wsX40 ++ wsX70 ++ ([] : List Cond)
theorem dX0_init_0 : decode cX0_init 0 = .ok (.aload_n 0, 1) := by decide +kernel
theorem dX0_init_1 : decode cX0_init 1 = .ok (.invokespecial 3, 3) := by decide +kernel
theorem dX0_init_4 : decode cX0_init 4 = .ok (.aload_n 0, 1) := by decide +kernel
theorem dX0_init_5 : decode cX0_init 5 = .ok (.bipush 20, 2) := by decide +kernel
theorem dX0_init_7 : decode cX0_init 7 = .ok (.newarray .int, 2) := by decide +kernel
theorem dX0_init_9 : decode cX0_init 9 = .ok (.putfield 9, 3) := by decide +kernel
theorem dX0_init_12 : decode cX0_init 12 = .ok (.aload_n 0, 1) := by decide +kernel
theorem dX0_init_13 : decode cX0_init 13 = .ok (.bipush 20, 2) := by decide +kernel
theorem dX0_init_15 : decode cX0_init 15 = .ok (.newarray .int, 2) := by decide +kernel
theorem dX0_init_17 : decode cX0_init 17 = .ok (.putfield 15, 3) := by decide +kernel
theorem dX0_init_20 : decode cX0_init 20 = .ok (.aload_n 0, 1) := by decide +kernel
theorem dX0_init_21 : decode cX0_init 21 = .ok (.bipush 20, 2) := by decide +kernel
theorem dX0_init_23 : decode cX0_init 23 = .ok (.newarray .int, 2) := by decide +kernel
theorem dX0_init_25 : decode cX0_init 25 = .ok (.putfield 18, 3) := by decide +kernel
theorem dX0_init_28 : decode cX0_init 28 = .ok (.aload_n 0, 1) := by decide +kernel
theorem dX0_init_29 : decode cX0_init 29 = .ok (.bipush 20, 2) := by decide +kernel
theorem dX0_init_31 : decode cX0_init 31 = .ok (.newarray .int, 2) := by decide +kernel
theorem dX0_init_33 : decode cX0_init 33 = .ok (.putfield 21, 3) := by decide +kernel
theorem dX0_init_36 : decode cX0_init 36 = .ok (.return_, 1) := by decide +kernel
theorem dX0_copyFrom_0 : decode cX0_copyFrom 0 = .ok (.aload_n 1, 1) := by decide +kernel
theorem dX0_copyFrom_1 : decode cX0_copyFrom 1 = .ok (.getfield 9, 3) := by decide +kernel
theorem dX0_copyFrom_4 : decode cX0_copyFrom 4 = .ok (.iconst 0, 1) := by decide +kernel
theorem dX0_copyFrom_5 : decode cX0_copyFrom 5 = .ok (.aload_n 0, 1) := by decide +kernel
theorem dX0_copyFrom_6 : decode cX0_copyFrom 6 = .ok (.getfield 9, 3) := by decide +kernel
theorem dX0_copyFrom_9 : decode cX0_copyFrom 9 = .ok (.iconst 0, 1) := by decide +kernel
theorem dX0_copyFrom_10 : decode cX0_copyFrom 10 = .ok (.bipush 20, 2) := by decide +kernel
theorem dX0_copyFrom_12 : decode cX0_copyFrom 12 = .ok (.invokestatic 24, 3) := by decide +kernel
theorem dX0_copyFrom_15 : decode cX0_copyFrom 15 = .ok (.aload_n 1, 1) := by decide +kernel
theorem dX0_copyFrom_16 : decode cX0_copyFrom 16 = .ok (.getfield 15, 3) := by decide +kernel
theorem dX0_copyFrom_19 : decode cX0_copyFrom 19 = .ok (.iconst 0, 1) := by decide +kernel
theorem dX0_copyFrom_20 : decode cX0_copyFrom 20 = .ok (.aload_n 0, 1) := by decide +kernel
theorem dX0_copyFrom_21 : decode cX0_copyFrom 21 = .ok (.getfield 15, 3) := by decide +kernel
theorem dX0_copyFrom_24 : decode cX0_copyFrom 24 = .ok (.iconst 0, 1) := by decide +kernel
theorem dX0_copyFrom_25 : decode cX0_copyFrom 25 = .ok (.bipush 20, 2) := by decide +kernel
theorem dX0_copyFrom_27 : decode cX0_copyFrom 27 = .ok (.invokestatic 24, 3) := by decide +kernel
theorem dX0_copyFrom_30 : decode cX0_copyFrom 30 = .ok (.aload_n 1, 1) := by decide +kernel
theorem dX0_copyFrom_31 : decode cX0_copyFrom 31 = .ok (.getfield 18, 3) := by decide +kernel
theorem dX0_copyFrom_34 : decode cX0_copyFrom 34 = .ok (.iconst 0, 1) := by decide +kernel
theorem dX0_copyFrom_35 : decode cX0_copyFrom 35 = .ok (.aload_n 0, 1) := by decide +kernel
theorem dX0_copyFrom_36 : decode cX0_copyFrom 36 = .ok (.getfield 18, 3) := by decide +kernel
theorem dX0_copyFrom_39 : decode cX0_copyFrom 39 = .ok (.iconst 0, 1) := by decide +kernel
theorem dX0_copyFrom_40 : decode cX0_copyFrom 40 = .ok (.bipush 20, 2) := by decide +kernel
theorem dX0_copyFrom_42 : decode cX0_copyFrom 42 = .ok (.invokestatic 24, 3) := by decide +kernel
theorem dX0_copyFrom_45 : decode cX0_copyFrom 45 = .ok (.aload_n 1, 1) := by decide +kernel
theorem dX0_copyFrom_46 : decode cX0_copyFrom 46 = .ok (.getfield 21, 3) := by decide +kernel
theorem dX0_copyFrom_49 : decode cX0_copyFrom 49 = .ok (.iconst 0, 1) := by decide +kernel
theorem dX0_copyFrom_50 : decode cX0_copyFrom 50 = .ok (.aload_n 0, 1) := by decide +kernel
theorem dX0_copyFrom_51 : decode cX0_copyFrom 51 = .ok (.getfield 21, 3) := by decide +kernel
theorem dX0_copyFrom_54 : decode cX0_copyFrom 54 = .ok (.iconst 0, 1) := by decide +kernel
theorem dX0_copyFrom_55 : decode cX0_copyFrom 55 = .ok (.bipush 20, 2) := by decide +kernel
theorem dX0_copyFrom_57 : decode cX0_copyFrom 57 = .ok (.invokestatic 24, 3) := by decide +kernel
theorem dX0_copyFrom_60 : decode cX0_copyFrom 60 = .ok (.aload_n 0, 1) := by decide +kernel
theorem dX0_copyFrom_61 : decode cX0_copyFrom 61 = .ok (.aload_n 1, 1) := by decide +kernel
theorem dX0_copyFrom_62 : decode cX0_copyFrom 62 = .ok (.getfield 30, 3) := by decide +kernel
theorem dX0_copyFrom_65 : decode cX0_copyFrom 65 = .ok (.putfield 30, 3) := by decide +kernel
theorem dX0_copyFrom_68 : decode cX0_copyFrom 68 = .ok (.aload_n 0, 1) := by decide +kernel
theorem dX0_copyFrom_69 : decode cX0_copyFrom 69 = .ok (.aload_n 1, 1) := by decide +kernel
theorem dX0_copyFrom_70 : decode cX0_copyFrom 70 = .ok (.getfield 34, 3) := by decide +kernel
theorem dX0_copyFrom_73 : decode cX0_copyFrom 73 = .ok (.putfield 34, 3) := by decide +kernel
theorem dX0_copyFrom_76 : decode cX0_copyFrom 76 = .ok (.return_, 1) := by decide +kernel
set_option maxRecDepth 20000 in
theorem ggX0_add_J9_floorMod_7cf53 : GoodIn wsX0_add wsJ9_floorMod_7cf53 := goodIn_r _ [14] (by decide +kernel) (by decide +kernel)
set_option maxRecDepth 20000 in
theorem gX0_add_J9_floorMod_7cf53 : GoodIn wsX0_add (va_wsS RX0 37 yJ9_floorMod_7cf53 wsJ9_floorMod_7cf53) := goodIn_app (goodIn_of _ (by decide +kernel)) ggX0_add_J9_floorMod_7cf53
theorem dX0_add_0 : decode cX0_add 0 = .ok (.aload_n 0, 1) := by decide +kernel
theorem dX0_add_1 : decode cX0_add 1 = .ok (.getfield 34, 3) := by decide +kernel
theorem dX0_add_4 : decode cX0_add 4 = .ok (.bipush 20, 2) := by decide +kernel
theorem dX0_add_6 : decode cX0_add 6 = .ok (.invokestatic 37, 3) := by decide +kernel
theorem dX0_add_9 : decode cX0_add 9 = .ok (.istore 5, 2) := by decide +kernel
theorem dX0_add_11 : decode cX0_add 11 = .ok (.aload_n 0, 1) := by decide +kernel
theorem dX0_add_12 : decode cX0_add 12 = .ok (.getfield 9, 3) := by decide +kernel
theorem dX0_add_15 : decode cX0_add 15 = .ok (.iload 5, 2) := by decide +kernel
theorem dX0_add_17 : decode cX0_add 17 = .ok (.iload_n 1, 1) := by decide +kernel
theorem dX0_add_18 : decode cX0_add 18 = .ok (.iastore, 1) := by decide +kernel
theorem dX0_add_19 : decode cX0_add 19 = .ok (.aload_n 0, 1) := by decide +kernel
theorem dX0_add_20 : decode cX0_add 20 = .ok (.getfield 15, 3) := by decide +kernel
theorem dX0_add_23 : decode cX0_add 23 = .ok (.iload 5, 2) := by decide +kernel
theorem dX0_add_25 : decode cX0_add 25 = .ok (.iload_n 2, 1) := by decide +kernel
theorem dX0_add_26 : decode cX0_add 26 = .ok (.iastore, 1) := by decide +kernel
theorem dX0_add_27 : decode cX0_add 27 = .ok (.aload_n 0, 1) := by decide +kernel
theorem dX0_add_28 : decode cX0_add 28 = .ok (.getfield 18, 3) := by decide +kernel
theorem dX0_add_31 : decode cX0_add 31 = .ok (.iload 5, 2) := by decide +kernel
theorem dX0_add_33 : decode cX0_add 33 = .ok (.iload_n 3, 1) := by decide +kernel
theorem dX0_add_34 : decode cX0_add 34 = .ok (.iastore, 1) := by decide +kernel
theorem dX0_add_35 : decode cX0_add 35 = .ok (.aload_n 0, 1) := by decide +kernel
theorem dX0_add_36 : decode cX0_add 36 = .ok (.getfield 21, 3) := by decide +kernel
theorem dX0_add_39 : decode cX0_add 39 = .ok (.iload 5, 2) := by decide +kernel
theorem dX0_add_41 : decode cX0_add 41 = .ok (.iload 4, 2) := by decide +kernel
theorem dX0_add_43 : decode cX0_add 43 = .ok (.iastore, 1) := by decide +kernel
theorem dX0_add_44 : decode cX0_add 44 = .ok (.aload_n 0, 1) := by decide +kernel
theorem dX0_add_45 : decode cX0_add 45 = .ok (.iload 5, 2) := by decide +kernel
theorem dX0_add_47 : decode cX0_add 47 = .ok (.iconst 1, 1) := by decide +kernel
theorem dX0_add_48 : decode cX0_add 48 = .ok (.iadd, 1) := by decide +kernel
theorem dX0_add_49 : decode cX0_add 49 = .ok (.bipush 20, 2) := by decide +kernel
theorem dX0_add_51 : decode cX0_add 51 = .ok (.invokestatic 37, 3) := by decide +kernel
theorem dX0_add_54 : decode cX0_add 54 = .ok (.putfield 34, 3) := by decide +kernel
theorem dX0_add_57 : decode cX0_add 57 = .ok (.aload_n 0, 1) := by decide +kernel
theorem dX0_add_58 : decode cX0_add 58 = .ok (.aload_n 0, 1) := by decide +kernel
theorem dX0_add_59 : decode cX0_add 59 = .ok (.getfield 30, 3) := by decide +kernel
theorem dX0_add_62 : decode cX0_add 62 = .ok (.iconst 1, 1) := by decide +kernel
theorem dX0_add_63 : decode cX0_add 63 = .ok (.iadd, 1) := by decide +kernel
theorem dX0_add_64 : decode cX0_add 64 = .ok (.bipush 20, 2) := by decide +kernel
theorem dX0_add_66 : decode cX0_add 66 = .ok (.invokestatic 43, 3) := by decide +kernel
theorem dX0_add_69 : decode cX0_add 69 = .ok (.putfield 30, 3) := by decide +kernel
theorem dX0_add_72 : decode cX0_add 72 = .ok (.return_, 1) := by decide +kernel
set_option maxRecDepth 20000 in
theorem ggX0_property_J9_floorMod_7cf53 : GoodIn wsX0_property wsJ9_floorMod_7cf53 := goodIn_r _ [10] (by decide +kernel) (by decide +kernel)
set_option maxRecDepth 20000 in
theorem gX0_property_J9_floorMod_7cf53 : GoodIn wsX0_property (va_wsS RX0 37 yJ9_floorMod_7cf53 wsJ9_floorMod_7cf53) := goodIn_app (goodIn_of _ (by decide +kernel)) ggX0_property_J9_floorMod_7cf53
theorem dX0_property_0 : decode cX0_property 0 = .ok (.iload_n 1, 1) := by decide +kernel
theorem dX0_property_1 : decode cX0_property 1 = .ok (.ifCond .lt 11, 3) := by decide +kernel
theorem dX0_property_4 : decode cX0_property 4 = .ok (.iload_n 1, 1) := by decide +kernel
theorem dX0_property_5 : decode cX0_property 5 = .ok (.aload_n 0, 1) := by decide +kernel
theorem dX0_property_6 : decode cX0_property 6 = .ok (.getfield 30, 3) := by decide +kernel
theorem dX0_property_9 : decode cX0_property 9 = .ok (.if_icmp .lt 6, 3) := by decide +kernel
theorem dX0_property_12 : decode cX0_property 12 = .ok (.bipush (-5), 2) := by decide +kernel
theorem dX0_property_14 : decode cX0_property 14 = .ok (.ireturn, 1) := by decide +kernel
theorem dX0_property_15 : decode cX0_property 15 = .ok (.aload_n 0, 1) := by decide +kernel
theorem dX0_property_16 : decode cX0_property 16 = .ok (.getfield 34, 3) := by decide +kernel
theorem dX0_property_19 : decode cX0_property 19 = .ok (.iconst 1, 1) := by decide +kernel
theorem dX0_property_20 : decode cX0_property 20 = .ok (.isub, 1) := by decide +kernel
theorem dX0_property_21 : decode cX0_property 21 = .ok (.iload_n 1, 1) := by decide +kernel
theorem dX0_property_22 : decode cX0_property 22 = .ok (.isub, 1) := by decide +kernel
theorem dX0_property_23 : decode cX0_property 23 = .ok (.bipush 20, 2) := by decide +kernel
theorem dX0_property_25 : decode cX0_property 25 = .ok (.invokestatic 37, 3) := by decide +kernel
theorem dX0_property_28 : decode cX0_property 28 = .ok (.istore_n 3, 1) := by decide +kernel
theorem dX0_property_29 : decode cX0_property 29 = .ok (.iload_n 2, 1) := by decide +kernel
theorem dX0_property_30 : decode cX0_property 30 = .ok (.tableswitch 47 0 2 #[26, 33, 40], 26) := by decide +kernel
theorem dX0_property_56 : decode cX0_property 56 = .ok (.aload_n 0, 1) := by decide +kernel
theorem dX0_property_57 : decode cX0_property 57 = .ok (.getfield 9, 3) := by decide +kernel
theorem dX0_property_60 : decode cX0_property 60 = .ok (.iload_n 3, 1) := by decide +kernel
theorem dX0_property_61 : decode cX0_property 61 = .ok (.iaload, 1) := by decide +kernel
theorem dX0_property_62 : decode cX0_property 62 = .ok (.ireturn, 1) := by decide +kernel
theorem dX0_property_63 : decode cX0_property 63 = .ok (.aload_n 0, 1) := by decide +kernel
theorem dX0_property_64 : decode cX0_property 64 = .ok (.getfield 15, 3) := by decide +kernel
theorem dX0_property_67 : decode cX0_property 67 = .ok (.iload_n 3, 1) := by decide +kernel
theorem dX0_property_68 : decode cX0_property 68 = .ok (.iaload, 1) := by decide +kernel
theorem dX0_property_69 : decode cX0_property 69 = .ok (.ireturn, 1) := by decide +kernel
theorem dX0_property_70 : decode cX0_property 70 = .ok (.aload_n 0, 1) := by decide +kernel
theorem dX0_property_71 : decode cX0_property 71 = .ok (.getfield 18, 3) := by decide +kernel
theorem dX0_property_74 : decode cX0_property 74 = .ok (.iload_n 3, 1) := by decide +kernel
theorem dX0_property_75 : decode cX0_property 75 = .ok (.iaload, 1) := by decide +kernel
theorem dX0_property_76 : decode cX0_property 76 = .ok (.ireturn, 1) := by decide +kernel
theorem dX0_property_77 : decode cX0_property 77 = .ok (.aload_n 0, 1) := by decide +kernel
theorem dX0_property_78 : decode cX0_property 78 = .ok (.getfield 21, 3) := by decide +kernel
theorem dX0_property_81 : decode cX0_property 81 = .ok (.iload_n 3, 1) := by decide +kernel
theorem dX0_property_82 : decode cX0_property 82 = .ok (.iaload, 1) := by decide +kernel
theorem dX0_property_83 : decode cX0_property 83 = .ok (.ireturn, 1) := by decide +kernel
set_option maxRecDepth 20000 in
theorem ggX1_init_X7_init : GoodIn wsX1_init wsX7_init := goodIn_r _ [11, 12, 2, 3, 13, 14, 15, 16] (by decide +kernel) (by decide +kernel)
set_option maxRecDepth 20000 in
theorem gX1_init_X7_init_n11 : GoodIn wsX1_init (wsX7_init) := ggX1_init_X7_init
theorem dX1_init_0 : decode cX1_init 0 = .ok (.aload_n 0, 1) := by decide +kernel
theorem dX1_init_1 : decode cX1_init 1 = .ok (.invokespecial 3, 3) := by decide +kernel
theorem dX1_init_4 : decode cX1_init 4 = .ok (.aload_n 0, 1) := by decide +kernel
theorem dX1_init_5 : decode cX1_init 5 = .ok (.new 9, 3) := by decide +kernel
theorem dX1_init_8 : decode cX1_init 8 = .ok (.dup, 1) := by decide +kernel
theorem dX1_init_9 : decode cX1_init 9 = .ok (.invokespecial 11, 3) := by decide +kernel
theorem dX1_init_12 : decode cX1_init 12 = .ok (.putfield 12, 3) := by decide +kernel
theorem dX1_init_15 : decode cX1_init 15 = .ok (.aload_n 0, 1) := by decide +kernel
theorem dX1_init_16 : decode cX1_init 16 = .ok (.new 9, 3) := by decide +kernel
theorem dX1_init_19 : decode cX1_init 19 = .ok (.dup, 1) := by decide +kernel
theorem dX1_init_20 : decode cX1_init 20 = .ok (.invokespecial 11, 3) := by decide +kernel
theorem dX1_init_23 : decode cX1_init 23 = .ok (.putfield 18, 3) := by decide +kernel
theorem dX1_init_26 : decode cX1_init 26 = .ok (.aload_n 0, 1) := by decide +kernel
theorem dX1_init_27 : decode cX1_init 27 = .ok (.bipush (-5), 2) := by decide +kernel
theorem dX1_init_29 : decode cX1_init 29 = .ok (.putfield 21, 3) := by decide +kernel
theorem dX1_init_32 : decode cX1_init 32 = .ok (.return_, 1) := by decide +kernel
theorem dX1_setUp_0 : decode cX1_setUp 0 = .ok (.aload_n 0, 1) := by decide +kernel
theorem dX1_setUp_1 : decode cX1_setUp 1 = .ok (.getfield 12, 3) := by decide +kernel
theorem dX1_setUp_4 : decode cX1_setUp 4 = .ok (.iconst 0, 1) := by decide +kernel
theorem dX1_setUp_5 : decode cX1_setUp 5 = .ok (.putfield 25, 3) := by decide +kernel
theorem dX1_setUp_8 : decode cX1_setUp 8 = .ok (.aload_n 0, 1) := by decide +kernel
theorem dX1_setUp_9 : decode cX1_setUp 9 = .ok (.getfield 18, 3) := by decide +kernel
theorem dX1_setUp_12 : decode cX1_setUp 12 = .ok (.iconst 0, 1) := by decide +kernel
theorem dX1_setUp_13 : decode cX1_setUp 13 = .ok (.putfield 25, 3) := by decide +kernel
theorem dX1_setUp_16 : decode cX1_setUp 16 = .ok (.aload_n 0, 1) := by decide +kernel
theorem dX1_setUp_17 : decode cX1_setUp 17 = .ok (.iload_n 1, 1) := by decide +kernel
theorem dX1_setUp_18 : decode cX1_setUp 18 = .ok (.putfield 28, 3) := by decide +kernel
theorem dX1_setUp_21 : decode cX1_setUp 21 = .ok (.aload_n 0, 1) := by decide +kernel
theorem dX1_setUp_22 : decode cX1_setUp 22 = .ok (.iload_n 2, 1) := by decide +kernel
theorem dX1_setUp_23 : decode cX1_setUp 23 = .ok (.putfield 31, 3) := by decide +kernel
theorem dX1_setUp_26 : decode cX1_setUp 26 = .ok (.aload_n 0, 1) := by decide +kernel
theorem dX1_setUp_27 : decode cX1_setUp 27 = .ok (.iload_n 3, 1) := by decide +kernel
theorem dX1_setUp_28 : decode cX1_setUp 28 = .ok (.putfield 34, 3) := by decide +kernel
theorem dX1_setUp_31 : decode cX1_setUp 31 = .ok (.aload_n 0, 1) := by decide +kernel
theorem dX1_setUp_32 : decode cX1_setUp 32 = .ok (.iload 4, 2) := by decide +kernel
theorem dX1_setUp_34 : decode cX1_setUp 34 = .ok (.putfield 37, 3) := by decide +kernel
theorem dX1_setUp_37 : decode cX1_setUp 37 = .ok (.aload_n 0, 1) := by decide +kernel
theorem dX1_setUp_38 : decode cX1_setUp 38 = .ok (.iconst 0, 1) := by decide +kernel
theorem dX1_setUp_39 : decode cX1_setUp 39 = .ok (.putfield 40, 3) := by decide +kernel
theorem dX1_setUp_42 : decode cX1_setUp 42 = .ok (.aload_n 0, 1) := by decide +kernel
theorem dX1_setUp_43 : decode cX1_setUp 43 = .ok (.iconst 0, 1) := by decide +kernel
theorem dX1_setUp_44 : decode cX1_setUp 44 = .ok (.putfield 43, 3) := by decide +kernel
theorem dX1_setUp_47 : decode cX1_setUp 47 = .ok (.aload_n 0, 1) := by decide +kernel
theorem dX1_setUp_48 : decode cX1_setUp 48 = .ok (.bipush (-5), 2) := by decide +kernel
theorem dX1_setUp_50 : decode cX1_setUp 50 = .ok (.putfield 21, 3) := by decide +kernel
theorem dX1_setUp_53 : decode cX1_setUp 53 = .ok (.aload_n 0, 1) := by decide +kernel
theorem dX1_setUp_54 : decode cX1_setUp 54 = .ok (.iconst 0, 1) := by decide +kernel
theorem dX1_setUp_55 : decode cX1_setUp 55 = .ok (.putfield 46, 3) := by decide +kernel
theorem dX1_setUp_58 : decode cX1_setUp 58 = .ok (.aload_n 0, 1) := by decide +kernel
theorem dX1_setUp_59 : decode cX1_setUp 59 = .ok (.iconst 0, 1) := by decide +kernel
theorem dX1_setUp_60 : decode cX1_setUp 60 = .ok (.putfield 50, 3) := by decide +kernel
theorem dX1_setUp_63 : decode cX1_setUp 63 = .ok (.aload_n 0, 1) := by decide +kernel
theorem dX1_setUp_64 : decode cX1_setUp 64 = .ok (.iconst 0, 1) := by decide +kernel
theorem dX1_setUp_65 : decode cX1_setUp 65 = .ok (.putfield 53, 3) := by decide +kernel
theorem dX1_setUp_68 : decode cX1_setUp 68 = .ok (.aload_n 0, 1) := by decide +kernel
theorem dX1_setUp_69 : decode cX1_setUp 69 = .ok (.iconst 0, 1) := by decide +kernel
theorem dX1_setUp_70 : decode cX1_setUp 70 = .ok (.putfield 56, 3) := by decide +kernel
theorem dX1_setUp_73 : decode cX1_setUp 73 = .ok (.aload_n 0, 1) := by decide +kernel
theorem dX1_setUp_74 : decode cX1_setUp 74 = .ok (.iconst 0, 1) := by decide +kernel
theorem dX1_setUp_75 : decode cX1_setUp 75 = .ok (.putfield 59, 3) := by decide +kernel
theorem dX1_setUp_78 : decode cX1_setUp 78 = .ok (.aload_n 0, 1) := by decide +kernel
theorem dX1_setUp_79 : decode cX1_setUp 79 = .ok (.iconst 0, 1) := by decide +kernel
theorem dX1_setUp_80 : decode cX1_setUp 80 = .ok (.putfield 62, 3) := by decide +kernel
theorem dX1_setUp_83 : decode cX1_setUp 83 = .ok (.return_, 1) := by decide +kernel
set_option maxRecDepth 20000 in
theorem ggX1_copyFrom_X7_copyFrom : GoodIn wsX1_copyFrom wsX7_copyFrom := goodIn_r _ [20, 21, 22, 23, 24, 25, 26, 27, 28, 29, 30, 46, 47] (by decide +kernel) (by decide +kernel)
set_option maxRecDepth 20000 in
theorem gX1_copyFrom_X7_copyFrom : GoodIn wsX1_copyFrom (wsV RX1 65 RX7 yX7_copyFrom wsX7_copyFrom) := goodIn_app (goodIn_of _ (by decide +kernel)) ggX1_copyFrom_X7_copyFrom
theorem dX1_copyFrom_0 : decode cX1_copyFrom 0 = .ok (.aload_n 0, 1) := by decide +kernel
theorem dX1_copyFrom_1 : decode cX1_copyFrom 1 = .ok (.getfield 12, 3) := by decide +kernel
theorem dX1_copyFrom_4 : decode cX1_copyFrom 4 = .ok (.aload_n 1, 1) := by decide +kernel
theorem dX1_copyFrom_5 : decode cX1_copyFrom 5 = .ok (.getfield 12, 3) := by decide +kernel
theorem dX1_copyFrom_8 : decode cX1_copyFrom 8 = .ok (.invokevirtual 65, 3) := by decide +kernel
theorem dX1_copyFrom_11 : decode cX1_copyFrom 11 = .ok (.aload_n 0, 1) := by decide +kernel
theorem dX1_copyFrom_12 : decode cX1_copyFrom 12 = .ok (.getfield 18, 3) := by decide +kernel
theorem dX1_copyFrom_15 : decode cX1_copyFrom 15 = .ok (.aload_n 1, 1) := by decide +kernel
theorem dX1_copyFrom_16 : decode cX1_copyFrom 16 = .ok (.getfield 18, 3) := by decide +kernel
theorem dX1_copyFrom_19 : decode cX1_copyFrom 19 = .ok (.invokevirtual 65, 3) := by decide +kernel
theorem dX1_copyFrom_22 : decode cX1_copyFrom 22 = .ok (.aload_n 0, 1) := by decide +kernel
theorem dX1_copyFrom_23 : decode cX1_copyFrom 23 = .ok (.aload_n 1, 1) := by decide +kernel
theorem dX1_copyFrom_24 : decode cX1_copyFrom 24 = .ok (.getfield 28, 3) := by decide +kernel
theorem dX1_copyFrom_27 : decode cX1_copyFrom 27 = .ok (.putfield 28, 3) := by decide +kernel
theorem dX1_copyFrom_30 : decode cX1_copyFrom 30 = .ok (.aload_n 0, 1) := by decide +kernel
theorem dX1_copyFrom_31 : decode cX1_copyFrom 31 = .ok (.aload_n 1, 1) := by decide +kernel
theorem dX1_copyFrom_32 : decode cX1_copyFrom 32 = .ok (.getfield 31, 3) := by decide +kernel
theorem dX1_copyFrom_35 : decode cX1_copyFrom 35 = .ok (.putfield 31, 3) := by decide +kernel
theorem dX1_copyFrom_38 : decode cX1_copyFrom 38 = .ok (.aload_n 0, 1) := by decide +kernel
theorem dX1_copyFrom_39 : decode cX1_copyFrom 39 = .ok (.aload_n 1, 1) := by decide +kernel
theorem dX1_copyFrom_40 : decode cX1_copyFrom 40 = .ok (.getfield 34, 3) := by decide +kernel
theorem dX1_copyFrom_43 : decode cX1_copyFrom 43 = .ok (.putfield 34, 3) := by decide +kernel
theorem dX1_copyFrom_46 : decode cX1_copyFrom 46 = .ok (.aload_n 0, 1) := by decide +kernel
theorem dX1_copyFrom_47 : decode cX1_copyFrom 47 = .ok (.aload_n 1, 1) := by decide +kernel
theorem dX1_copyFrom_48 : decode cX1_copyFrom 48 = .ok (.getfield 37, 3) := by decide +kernel
theorem dX1_copyFrom_51 : decode cX1_copyFrom 51 = .ok (.putfield 37, 3) := by decide +kernel
theorem dX1_copyFrom_54 : decode cX1_copyFrom 54 = .ok (.aload_n 0, 1) := by decide +kernel
theorem dX1_copyFrom_55 : decode cX1_copyFrom 55 = .ok (.aload_n 1, 1) := by decide +kernel
theorem dX1_copyFrom_56 : decode cX1_copyFrom 56 = .ok (.getfield 40, 3) := by decide +kernel
theorem dX1_copyFrom_59 : decode cX1_copyFrom 59 = .ok (.putfield 40, 3) := by decide +kernel
theorem dX1_copyFrom_62 : decode cX1_copyFrom 62 = .ok (.aload_n 0, 1) := by decide +kernel
theorem dX1_copyFrom_63 : decode cX1_copyFrom 63 = .ok (.aload_n 1, 1) := by decide +kernel
theorem dX1_copyFrom_64 : decode cX1_copyFrom 64 = .ok (.getfield 43, 3) := by decide +kernel
theorem dX1_copyFrom_67 : decode cX1_copyFrom 67 = .ok (.putfield 43, 3) := by decide +kernel
theorem dX1_copyFrom_70 : decode cX1_copyFrom 70 = .ok (.aload_n 0, 1) := by decide +kernel
theorem dX1_copyFrom_71 : decode cX1_copyFrom 71 = .ok (.aload_n 1, 1) := by decide +kernel
theorem dX1_copyFrom_72 : decode cX1_copyFrom 72 = .ok (.getfield 21, 3) := by decide +kernel
theorem dX1_copyFrom_75 : decode cX1_copyFrom 75 = .ok (.putfield 21, 3) := by decide +kernel
theorem dX1_copyFrom_78 : decode cX1_copyFrom 78 = .ok (.aload_n 0, 1) := by decide +kernel
theorem dX1_copyFrom_79 : decode cX1_copyFrom 79 = .ok (.aload_n 1, 1) := by decide +kernel
theorem dX1_copyFrom_80 : decode cX1_copyFrom 80 = .ok (.getfield 46, 3) := by decide +kernel
theorem dX1_copyFrom_83 : decode cX1_copyFrom 83 = .ok (.putfield 46, 3) := by decide +kernel
theorem dX1_copyFrom_86 : decode cX1_copyFrom 86 = .ok (.aload_n 0, 1) := by decide +kernel
theorem dX1_copyFrom_87 : decode cX1_copyFrom 87 = .ok (.aload_n 1, 1) := by decide +kernel
theorem dX1_copyFrom_88 : decode cX1_copyFrom 88 = .ok (.getfield 50, 3) := by decide +kernel
theorem dX1_copyFrom_91 : decode cX1_copyFrom 91 = .ok (.putfield 50, 3) := by decide +kernel
theorem dX1_copyFrom_94 : decode cX1_copyFrom 94 = .ok (.aload_n 0, 1) := by decide +kernel
theorem dX1_copyFrom_95 : decode cX1_copyFrom 95 = .ok (.aload_n 1, 1) := by decide +kernel
theorem dX1_copyFrom_96 : decode cX1_copyFrom 96 = .ok (.getfield 53, 3) := by decide +kernel
theorem dX1_copyFrom_99 : decode cX1_copyFrom 99 = .ok (.putfield 53, 3) := by decide +kernel
theorem dX1_copyFrom_102 : decode cX1_copyFrom 102 = .ok (.aload_n 0, 1) := by decide +kernel
theorem dX1_copyFrom_103 : decode cX1_copyFrom 103 = .ok (.aload_n 1, 1) := by decide +kernel
theorem dX1_copyFrom_104 : decode cX1_copyFrom 104 = .ok (.getfield 56, 3) := by decide +kernel
theorem dX1_copyFrom_107 : decode cX1_copyFrom 107 = .ok (.putfield 56, 3) := by decide +kernel
theorem dX1_copyFrom_110 : decode cX1_copyFrom 110 = .ok (.aload_n 0, 1) := by decide +kernel
theorem dX1_copyFrom_111 : decode cX1_copyFrom 111 = .ok (.aload_n 1, 1) := by decide +kernel
theorem dX1_copyFrom_112 : decode cX1_copyFrom 112 = .ok (.getfield 59, 3) := by decide +kernel
theorem dX1_copyFrom_115 : decode cX1_copyFrom 115 = .ok (.putfield 59, 3) := by decide +kernel
theorem dX1_copyFrom_118 : decode cX1_copyFrom 118 = .ok (.aload_n 0, 1) := by decide +kernel
theorem dX1_copyFrom_119 : decode cX1_copyFrom 119 = .ok (.aload_n 1, 1) := by decide +kernel
theorem dX1_copyFrom_120 : decode cX1_copyFrom 120 = .ok (.getfield 62, 3) := by decide +kernel
theorem dX1_copyFrom_123 : decode cX1_copyFrom 123 = .ok (.putfield 62, 3) := by decide +kernel
theorem dX1_copyFrom_126 : decode cX1_copyFrom 126 = .ok (.return_, 1) := by decide +kernel
theorem dX1_turnTo_0 : decode cX1_turnTo 0 = .ok (.aload_n 0, 1) := by decide +kernel
theorem dX1_turnTo_1 : decode cX1_turnTo 1 = .ok (.iload_n 1, 1) := by decide +kernel
theorem dX1_turnTo_2 : decode cX1_turnTo 2 = .ok (.putfield 40, 3) := by decide +kernel
theorem dX1_turnTo_5 : decode cX1_turnTo 5 = .ok (.aload_n 0, 1) := by decide +kernel
theorem dX1_turnTo_6 : decode cX1_turnTo 6 = .ok (.iload_n 2, 1) := by decide +kernel
theorem dX1_turnTo_7 : decode cX1_turnTo 7 = .ok (.putfield 43, 3) := by decide +kernel
theorem dX1_turnTo_10 : decode cX1_turnTo 10 = .ok (.return_, 1) := by decide +kernel
theorem dX1_holdsPerson_0 : decode cX1_holdsPerson 0 = .ok (.aload_n 0, 1) := by decide +kernel
theorem dX1_holdsPerson_1 : decode cX1_holdsPerson 1 = .ok (.getfield 40, 3) := by decide +kernel
theorem dX1_holdsPerson_4 : decode cX1_holdsPerson 4 = .ok (.ifCond .eq 15, 3) := by decide +kernel
theorem dX1_holdsPerson_7 : decode cX1_holdsPerson 7 = .ok (.aload_n 0, 1) := by decide +kernel
theorem dX1_holdsPerson_8 : decode cX1_holdsPerson 8 = .ok (.getfield 40, 3) := by decide +kernel
theorem dX1_holdsPerson_11 : decode cX1_holdsPerson 11 = .ok (.iconst 5, 1) := by decide +kernel
theorem dX1_holdsPerson_12 : decode cX1_holdsPerson 12 = .ok (.if_icmp .eq 7, 3) := by decide +kernel
theorem dX1_holdsPerson_15 : decode cX1_holdsPerson 15 = .ok (.iconst 1, 1) := by decide +kernel
theorem dX1_holdsPerson_16 : decode cX1_holdsPerson 16 = .ok (.goto 4, 3) := by decide +kernel
theorem dX1_holdsPerson_19 : decode cX1_holdsPerson 19 = .ok (.iconst 0, 1) := by decide +kernel
theorem dX1_holdsPerson_20 : decode cX1_holdsPerson 20 = .ok (.ireturn, 1) := by decide +kernel
theorem dX1_queuesTogether_0 : decode cX1_queuesTogether 0 = .ok (.aload_n 0, 1) := by decide +kernel
theorem dX1_queuesTogether_1 : decode cX1_queuesTogether 1 = .ok (.getfield 12, 3) := by decide +kernel
theorem dX1_queuesTogether_4 : decode cX1_queuesTogether 4 = .ok (.getfield 25, 3) := by decide +kernel
theorem dX1_queuesTogether_7 : decode cX1_queuesTogether 7 = .ok (.aload_n 0, 1) := by decide +kernel
theorem dX1_queuesTogether_8 : decode cX1_queuesTogether 8 = .ok (.getfield 18, 3) := by decide +kernel
theorem dX1_queuesTogether_11 : decode cX1_queuesTogether 11 = .ok (.getfield 25, 3) := by decide +kernel
theorem dX1_queuesTogether_14 : decode cX1_queuesTogether 14 = .ok (.iadd, 1) := by decide +kernel
theorem dX1_queuesTogether_15 : decode cX1_queuesTogether 15 = .ok (.ireturn, 1) := by decide +kernel
set_option maxRecDepth 20000 in
theorem ggX2_init_X8_init : GoodIn wsX2_init wsX8_init := goodIn_r _ [10, 11, 2, 3, 12, 13, 14, 15, 16, 17, 18, 19, 20, 21, 22, 23, 24, 25, 26, 27, 28, 29, 30, 31, 32, 33, 34, 35, 36, 37, 38, 39, 40, 41, 42, 43, 44, 45, 46, 47, 48, 49, 50, 51, 52, 53, 54, 55, 56, 57, 58, 59, 60, 61, 62, 63, 67, 68, 69, 70, 71, 72, 73, 74, 75, 76, 77, 78, 79, 80, 81, 82, 83, 84, 85, 86, 87, 88, 89, 90, 91, 92, 93, 94, 95, 96, 97, 98, 99, 100, 101, 102, 103, 104, 105, 106, 107, 108, 109, 110, 111, 112, 113, 114, 115] (by decide +kernel) (by decide +kernel)
set_option maxRecDepth 20000 in
theorem gX2_init_X8_init : GoodIn wsX2_init (wsX8_init) := ggX2_init_X8_init
theorem dX2_init_0 : decode cX2_init 0 = .ok (.aload_n 0, 1) := by decide +kernel
theorem dX2_init_1 : decode cX2_init 1 = .ok (.invokespecial 3, 3) := by decide +kernel
theorem dX2_init_4 : decode cX2_init 4 = .ok (.aload_n 0, 1) := by decide +kernel
theorem dX2_init_5 : decode cX2_init 5 = .ok (.iconst 5, 1) := by decide +kernel
theorem dX2_init_6 : decode cX2_init 6 = .ok (.anewarray 9, 3) := by decide +kernel
theorem dX2_init_9 : decode cX2_init 9 = .ok (.putfield 11, 3) := by decide +kernel
theorem dX2_init_12 : decode cX2_init 12 = .ok (.iconst 0, 1) := by decide +kernel
theorem dX2_init_13 : decode cX2_init 13 = .ok (.istore_n 1, 1) := by decide +kernel
theorem dX2_init_14 : decode cX2_init 14 = .ok (.iload_n 1, 1) := by decide +kernel
theorem dX2_init_15 : decode cX2_init 15 = .ok (.aload_n 0, 1) := by decide +kernel
theorem dX2_init_16 : decode cX2_init 16 = .ok (.getfield 11, 3) := by decide +kernel
theorem dX2_init_19 : decode cX2_init 19 = .ok (.arraylength, 1) := by decide +kernel
theorem dX2_init_20 : decode cX2_init 20 = .ok (.if_icmp .ge 22, 3) := by decide +kernel
theorem dX2_init_23 : decode cX2_init 23 = .ok (.aload_n 0, 1) := by decide +kernel
theorem dX2_init_24 : decode cX2_init 24 = .ok (.getfield 11, 3) := by decide +kernel
theorem dX2_init_27 : decode cX2_init 27 = .ok (.iload_n 1, 1) := by decide +kernel
theorem dX2_init_28 : decode cX2_init 28 = .ok (.new 9, 3) := by decide +kernel
theorem dX2_init_31 : decode cX2_init 31 = .ok (.dup, 1) := by decide +kernel
theorem dX2_init_32 : decode cX2_init 32 = .ok (.invokespecial 17, 3) := by decide +kernel
theorem dX2_init_35 : decode cX2_init 35 = .ok (.aastore, 1) := by decide +kernel
theorem dX2_init_36 : decode cX2_init 36 = .ok (.iinc 1 1, 3) := by decide +kernel
theorem dX2_init_39 : decode cX2_init 39 = .ok (.goto (-25), 3) := by decide +kernel
theorem dX2_init_42 : decode cX2_init 42 = .ok (.return_, 1) := by decide +kernel
set_option maxRecDepth 20000 in
theorem ggX2_prepare_X2_rowOf : GoodIn wsX2_prepare wsX2_rowOf := goodIn_r _ [7, 8, 9, 10, 11, 12, 106, 107, 108] (by decide +kernel) (by decide +kernel)
set_option maxRecDepth 20000 in
theorem gX2_prepare_X2_rowOf : GoodIn wsX2_prepare (wsV RX2 22 RX2 yX2_rowOf wsX2_rowOf) := goodIn_app (goodIn_of _ (by decide +kernel)) ggX2_prepare_X2_rowOf
set_option maxRecDepth 20000 in
theorem ggX2_prepare_X8_copyFrom : GoodIn wsX2_prepare wsX8_copyFrom := goodIn_r _ [17, 18, 19, 20, 21, 22, 23, 24, 25, 26, 27, 28, 29, 30, 31, 32, 33, 34, 35, 36, 37, 38, 39, 40, 41, 42, 43, 44, 45, 46, 47, 48, 49, 50, 51, 52, 53, 54, 55, 56, 57, 58, 59, 60, 61, 62, 63, 64, 65, 66, 67, 68, 69, 70, 71, 72, 73, 74, 75, 76, 77, 78, 79, 80, 81, 82, 83, 84, 85, 86, 87, 88, 89, 90, 91, 92, 93, 94, 95, 96, 97, 98, 99, 100, 101, 102, 103, 104, 105, 109, 110, 111, 112, 113, 114, 115, 116, 117, 118, 119, 120, 121, 122, 123, 124, 125, 126, 127, 128, 129, 130, 131, 132, 133, 134, 135, 136, 137, 138, 139, 140, 141, 142, 143, 144, 145, 146, 147, 148, 149, 150, 151, 152, 153, 154, 155, 156, 157] (by decide +kernel) (by decide +kernel)
set_option maxRecDepth 20000 in
theorem gX2_prepare_X8_copyFrom : GoodIn wsX2_prepare (wsV RX2 26 RX8 yX8_copyFrom wsX8_copyFrom) := goodIn_app (goodIn_of _ (by decide +kernel)) ggX2_prepare_X8_copyFrom
theorem dX2_prepare_0 : decode cX2_prepare 0 = .ok (.aload_n 0, 1) := by decide +kernel
theorem dX2_prepare_1 : decode cX2_prepare 1 = .ok (.getfield 11, 3) := by decide +kernel
theorem dX2_prepare_4 : decode cX2_prepare 4 = .ok (.aload_n 0, 1) := by decide +kernel
theorem dX2_prepare_5 : decode cX2_prepare 5 = .ok (.aload_n 0, 1) := by decide +kernel
theorem dX2_prepare_6 : decode cX2_prepare 6 = .ok (.getfield 18, 3) := by decide +kernel
theorem dX2_prepare_9 : decode cX2_prepare 9 = .ok (.invokevirtual 22, 3) := by decide +kernel
theorem dX2_prepare_12 : decode cX2_prepare 12 = .ok (.aaload, 1) := by decide +kernel
theorem dX2_prepare_13 : decode cX2_prepare 13 = .ok (.aload_n 1, 1) := by decide +kernel
theorem dX2_prepare_14 : decode cX2_prepare 14 = .ok (.invokevirtual 26, 3) := by decide +kernel
theorem dX2_prepare_17 : decode cX2_prepare 17 = .ok (.return_, 1) := by decide +kernel
set_option maxRecDepth 20000 in
theorem ggX2_keep_X2_rowOf : GoodIn wsX2_keep wsX2_rowOf := goodIn_r _ [7, 2, 8, 9, 10, 11, 12, 13, 14] (by decide +kernel) (by decide +kernel)
set_option maxRecDepth 20000 in
theorem gX2_keep_X2_rowOf : GoodIn wsX2_keep (wsV RX2 22 RX2 yX2_rowOf wsX2_rowOf) := goodIn_app (goodIn_of _ (by decide +kernel)) ggX2_keep_X2_rowOf
theorem dX2_keep_0 : decode cX2_keep 0 = .ok (.aload_n 0, 1) := by decide +kernel
theorem dX2_keep_1 : decode cX2_keep 1 = .ok (.getfield 18, 3) := by decide +kernel
theorem dX2_keep_4 : decode cX2_keep 4 = .ok (.iconst 4, 1) := by decide +kernel
theorem dX2_keep_5 : decode cX2_keep 5 = .ok (.if_icmp .ge 16, 3) := by decide +kernel
theorem dX2_keep_8 : decode cX2_keep 8 = .ok (.aload_n 0, 1) := by decide +kernel
theorem dX2_keep_9 : decode cX2_keep 9 = .ok (.dup, 1) := by decide +kernel
theorem dX2_keep_10 : decode cX2_keep 10 = .ok (.getfield 18, 3) := by decide +kernel
theorem dX2_keep_13 : decode cX2_keep 13 = .ok (.iconst 1, 1) := by decide +kernel
theorem dX2_keep_14 : decode cX2_keep 14 = .ok (.iadd, 1) := by decide +kernel
theorem dX2_keep_15 : decode cX2_keep 15 = .ok (.putfield 18, 3) := by decide +kernel
theorem dX2_keep_18 : decode cX2_keep 18 = .ok (.goto 12, 3) := by decide +kernel
theorem dX2_keep_21 : decode cX2_keep 21 = .ok (.aload_n 0, 1) := by decide +kernel
theorem dX2_keep_22 : decode cX2_keep 22 = .ok (.aload_n 0, 1) := by decide +kernel
theorem dX2_keep_23 : decode cX2_keep 23 = .ok (.iconst 1, 1) := by decide +kernel
theorem dX2_keep_24 : decode cX2_keep 24 = .ok (.invokevirtual 22, 3) := by decide +kernel
theorem dX2_keep_27 : decode cX2_keep 27 = .ok (.putfield 30, 3) := by decide +kernel
theorem dX2_keep_30 : decode cX2_keep 30 = .ok (.return_, 1) := by decide +kernel
set_option maxRecDepth 20000 in
theorem ggX2_takeLatest_X2_rowOf : GoodIn wsX2_takeLatest wsX2_rowOf := goodIn_r _ [11, 12, 13, 14, 15, 16, 17, 18, 19] (by decide +kernel) (by decide +kernel)
set_option maxRecDepth 20000 in
theorem gX2_takeLatest_X2_rowOf : GoodIn wsX2_takeLatest (wsV RX2 22 RX2 yX2_rowOf wsX2_rowOf) := goodIn_app (goodIn_of _ (by decide +kernel)) ggX2_takeLatest_X2_rowOf
theorem dX2_takeLatest_0 : decode cX2_takeLatest 0 = .ok (.aload_n 0, 1) := by decide +kernel
theorem dX2_takeLatest_1 : decode cX2_takeLatest 1 = .ok (.aload_n 0, 1) := by decide +kernel
theorem dX2_takeLatest_2 : decode cX2_takeLatest 2 = .ok (.getfield 18, 3) := by decide +kernel
theorem dX2_takeLatest_5 : decode cX2_takeLatest 5 = .ok (.iconst 1, 1) := by decide +kernel
theorem dX2_takeLatest_6 : decode cX2_takeLatest 6 = .ok (.isub, 1) := by decide +kernel
theorem dX2_takeLatest_7 : decode cX2_takeLatest 7 = .ok (.iconst 0, 1) := by decide +kernel
theorem dX2_takeLatest_8 : decode cX2_takeLatest 8 = .ok (.invokestatic 33, 3) := by decide +kernel
theorem dX2_takeLatest_11 : decode cX2_takeLatest 11 = .ok (.putfield 18, 3) := by decide +kernel
theorem dX2_takeLatest_14 : decode cX2_takeLatest 14 = .ok (.aload_n 0, 1) := by decide +kernel
theorem dX2_takeLatest_15 : decode cX2_takeLatest 15 = .ok (.getfield 11, 3) := by decide +kernel
theorem dX2_takeLatest_18 : decode cX2_takeLatest 18 = .ok (.aload_n 0, 1) := by decide +kernel
theorem dX2_takeLatest_19 : decode cX2_takeLatest 19 = .ok (.aload_n 0, 1) := by decide +kernel
theorem dX2_takeLatest_20 : decode cX2_takeLatest 20 = .ok (.getfield 18, 3) := by decide +kernel
theorem dX2_takeLatest_23 : decode cX2_takeLatest 23 = .ok (.invokevirtual 22, 3) := by decide +kernel
theorem dX2_takeLatest_26 : decode cX2_takeLatest 26 = .ok (.aaload, 1) := by decide +kernel
theorem dX2_takeLatest_27 : decode cX2_takeLatest 27 = .ok (.areturn, 1) := by decide +kernel
set_option maxRecDepth 20000 in
theorem ggX2_rowOf_J9_floorMod_7cf53 : GoodIn wsX2_rowOf wsJ9_floorMod_7cf53 := goodIn_r _ [5] (by decide +kernel) (by decide +kernel)
set_option maxRecDepth 20000 in
theorem gX2_rowOf_J9_floorMod_7cf53 : GoodIn wsX2_rowOf (va_wsS RX2 39 yJ9_floorMod_7cf53 wsJ9_floorMod_7cf53) := goodIn_app (goodIn_of _ (by decide +kernel)) ggX2_rowOf_J9_floorMod_7cf53
theorem dX2_rowOf_0 : decode cX2_rowOf 0 = .ok (.aload_n 0, 1) := by decide +kernel
theorem dX2_rowOf_1 : decode cX2_rowOf 1 = .ok (.getfield 30, 3) := by decide +kernel
theorem dX2_rowOf_4 : decode cX2_rowOf 4 = .ok (.iload_n 1, 1) := by decide +kernel
theorem dX2_rowOf_5 : decode cX2_rowOf 5 = .ok (.iadd, 1) := by decide +kernel
theorem dX2_rowOf_6 : decode cX2_rowOf 6 = .ok (.iconst 5, 1) := by decide +kernel
theorem dX2_rowOf_7 : decode cX2_rowOf 7 = .ok (.invokestatic 39, 3) := by decide +kernel
theorem dX2_rowOf_10 : decode cX2_rowOf 10 = .ok (.ireturn, 1) := by decide +kernel
theorem dX3_init_0 : decode cX3_init 0 = .ok (.aload_n 0, 1) := by decide +kernel
theorem dX3_init_1 : decode cX3_init 1 = .ok (.invokespecial 3, 3) := by decide +kernel
theorem dX3_init_4 : decode cX3_init 4 = .ok (.aload_n 0, 1) := by decide +kernel
theorem dX3_init_5 : decode cX3_init 5 = .ok (.bipush 50, 2) := by decide +kernel
theorem dX3_init_7 : decode cX3_init 7 = .ok (.newarray .char, 2) := by decide +kernel
theorem dX3_init_9 : decode cX3_init 9 = .ok (.putfield 9, 3) := by decide +kernel
theorem dX3_init_12 : decode cX3_init 12 = .ok (.return_, 1) := by decide +kernel
theorem dX3_append_0 : decode cX3_append 0 = .ok (.aload_n 0, 1) := by decide +kernel
theorem dX3_append_1 : decode cX3_append 1 = .ok (.getfield 15, 3) := by decide +kernel
theorem dX3_append_4 : decode cX3_append 4 = .ok (.ifCond .lt 15, 3) := by decide +kernel
theorem dX3_append_7 : decode cX3_append 7 = .ok (.aload_n 0, 1) := by decide +kernel
theorem dX3_append_8 : decode cX3_append 8 = .ok (.getfield 15, 3) := by decide +kernel
theorem dX3_append_11 : decode cX3_append 11 = .ok (.aload_n 0, 1) := by decide +kernel
theorem dX3_append_12 : decode cX3_append 12 = .ok (.getfield 9, 3) := by decide +kernel
theorem dX3_append_15 : decode cX3_append 15 = .ok (.arraylength, 1) := by decide +kernel
theorem dX3_append_16 : decode cX3_append 16 = .ok (.if_icmp .lt 6, 3) := by decide +kernel
theorem dX3_append_19 : decode cX3_append 19 = .ok (.bipush (-3), 2) := by decide +kernel
theorem dX3_append_21 : decode cX3_append 21 = .ok (.ireturn, 1) := by decide +kernel
theorem dX3_append_22 : decode cX3_append 22 = .ok (.aload_n 0, 1) := by decide +kernel
theorem dX3_append_23 : decode cX3_append 23 = .ok (.getfield 9, 3) := by decide +kernel
theorem dX3_append_26 : decode cX3_append 26 = .ok (.aload_n 0, 1) := by decide +kernel
theorem dX3_append_27 : decode cX3_append 27 = .ok (.getfield 15, 3) := by decide +kernel
theorem dX3_append_30 : decode cX3_append 30 = .ok (.iload_n 1, 1) := by decide +kernel
theorem dX3_append_31 : decode cX3_append 31 = .ok (.castore, 1) := by decide +kernel
theorem dX3_append_32 : decode cX3_append 32 = .ok (.aload_n 0, 1) := by decide +kernel
theorem dX3_append_33 : decode cX3_append 33 = .ok (.dup, 1) := by decide +kernel
theorem dX3_append_34 : decode cX3_append 34 = .ok (.getfield 15, 3) := by decide +kernel
theorem dX3_append_37 : decode cX3_append 37 = .ok (.iconst 1, 1) := by decide +kernel
theorem dX3_append_38 : decode cX3_append 38 = .ok (.iadd, 1) := by decide +kernel
theorem dX3_append_39 : decode cX3_append 39 = .ok (.putfield 15, 3) := by decide +kernel
theorem dX3_append_42 : decode cX3_append 42 = .ok (.aload_n 0, 1) := by decide +kernel
theorem dX3_append_43 : decode cX3_append 43 = .ok (.getfield 15, 3) := by decide +kernel
theorem dX3_append_46 : decode cX3_append 46 = .ok (.ireturn, 1) := by decide +kernel
theorem dX3_erase_0 : decode cX3_erase 0 = .ok (.aload_n 0, 1) := by decide +kernel
theorem dX3_erase_1 : decode cX3_erase 1 = .ok (.getfield 15, 3) := by decide +kernel
theorem dX3_erase_4 : decode cX3_erase 4 = .ok (.istore_n 1, 1) := by decide +kernel
theorem dX3_erase_5 : decode cX3_erase 5 = .ok (.aload_n 0, 1) := by decide +kernel
theorem dX3_erase_6 : decode cX3_erase 6 = .ok (.iconst 0, 1) := by decide +kernel
theorem dX3_erase_7 : decode cX3_erase 7 = .ok (.putfield 15, 3) := by decide +kernel
theorem dX3_erase_10 : decode cX3_erase 10 = .ok (.iload_n 1, 1) := by decide +kernel
theorem dX3_erase_11 : decode cX3_erase 11 = .ok (.ireturn, 1) := by decide +kernel
theorem dX3_restart_0 : decode cX3_restart 0 = .ok (.aload_n 0, 1) := by decide +kernel
theorem dX3_restart_1 : decode cX3_restart 1 = .ok (.iconst 0, 1) := by decide +kernel
theorem dX3_restart_2 : decode cX3_restart 2 = .ok (.putfield 19, 3) := by decide +kernel
theorem dX3_restart_5 : decode cX3_restart 5 = .ok (.return_, 1) := by decide +kernel
set_option maxRecDepth 20000 in
theorem ggX3_findFault_X3_restart : GoodIn wsX3_findFault wsX3_restart := goodIn_r _ [7, 1, 37, 38, 39, 40, 41, 42, 43] (by decide +kernel) (by decide +kernel)
set_option maxRecDepth 20000 in
theorem gX3_findFault_X3_restart : GoodIn wsX3_findFault (wsV RX3 22 RX3 yX3_restart wsX3_restart) := goodIn_app (goodIn_of _ (by decide +kernel)) ggX3_findFault_X3_restart
set_option maxRecDepth 20000 in
theorem ggX3_findFault_X3_readOrder : GoodIn wsX3_findFault wsX3_readOrder := goodIn_r _ [11, 12, 1, 13, 14, 15, 6, 16, 2, 17, 18, 19, 20, 21, 22, 23, 24, 25, 26, 27, 28, 29, 30, 31, 32, 33, 34, 35, 36, 37, 38, 39, 40, 41, 42, 43] (by decide +kernel) (by decide +kernel)
set_option maxRecDepth 20000 in
theorem gX3_findFault_X3_readOrder : GoodIn wsX3_findFault (wsV RX3 25 RX3 yX3_readOrder wsX3_readOrder) := goodIn_app (goodIn_of _ (by decide +kernel)) ggX3_findFault_X3_readOrder
theorem dX3_findFault_0 : decode cX3_findFault 0 = .ok (.aload_n 0, 1) := by decide +kernel
theorem dX3_findFault_1 : decode cX3_findFault 1 = .ok (.invokevirtual 22, 3) := by decide +kernel
theorem dX3_findFault_4 : decode cX3_findFault 4 = .ok (.iconst 0, 1) := by decide +kernel
theorem dX3_findFault_5 : decode cX3_findFault 5 = .ok (.istore_n 2, 1) := by decide +kernel
theorem dX3_findFault_6 : decode cX3_findFault 6 = .ok (.iload_n 2, 1) := by decide +kernel
theorem dX3_findFault_7 : decode cX3_findFault 7 = .ok (.bipush 50, 2) := by decide +kernel
theorem dX3_findFault_9 : decode cX3_findFault 9 = .ok (.if_icmp .ge 35, 3) := by decide +kernel
theorem dX3_findFault_12 : decode cX3_findFault 12 = .ok (.aload_n 0, 1) := by decide +kernel
theorem dX3_findFault_13 : decode cX3_findFault 13 = .ok (.iload_n 1, 1) := by decide +kernel
theorem dX3_findFault_14 : decode cX3_findFault 14 = .ok (.invokevirtual 25, 3) := by decide +kernel
theorem dX3_findFault_17 : decode cX3_findFault 17 = .ok (.ifCond .ne 8, 3) := by decide +kernel
theorem dX3_findFault_20 : decode cX3_findFault 20 = .ok (.aload_n 0, 1) := by decide +kernel
theorem dX3_findFault_21 : decode cX3_findFault 21 = .ok (.getfield 19, 3) := by decide +kernel
theorem dX3_findFault_24 : decode cX3_findFault 24 = .ok (.ireturn, 1) := by decide +kernel
theorem dX3_findFault_25 : decode cX3_findFault 25 = .ok (.aload_n 0, 1) := by decide +kernel
theorem dX3_findFault_26 : decode cX3_findFault 26 = .ok (.getfield 19, 3) := by decide +kernel
theorem dX3_findFault_29 : decode cX3_findFault 29 = .ok (.aload_n 0, 1) := by decide +kernel
theorem dX3_findFault_30 : decode cX3_findFault 30 = .ok (.getfield 15, 3) := by decide +kernel
theorem dX3_findFault_33 : decode cX3_findFault 33 = .ok (.if_icmp .lt 5, 3) := by decide +kernel
theorem dX3_findFault_36 : decode cX3_findFault 36 = .ok (.iconst (-1), 1) := by decide +kernel
theorem dX3_findFault_37 : decode cX3_findFault 37 = .ok (.ireturn, 1) := by decide +kernel
theorem dX3_findFault_38 : decode cX3_findFault 38 = .ok (.iinc 2 1, 3) := by decide +kernel
theorem dX3_findFault_41 : decode cX3_findFault 41 = .ok (.goto (-35), 3) := by decide +kernel
theorem dX3_findFault_44 : decode cX3_findFault 44 = .ok (.iconst (-1), 1) := by decide +kernel
theorem dX3_findFault_45 : decode cX3_findFault 45 = .ok (.ireturn, 1) := by decide +kernel
set_option maxRecDepth 20000 in
theorem ggX3_readOrder_X3_letterHere : GoodIn wsX3_readOrder wsX3_letterHere := goodIn_r _ [7, 2, 8, 9, 29, 30, 31, 32, 33, 34, 35] (by decide +kernel) (by decide +kernel)
set_option maxRecDepth 20000 in
theorem gX3_readOrder_X3_letterHere : GoodIn wsX3_readOrder (wsV RX3 29 RX3 yX3_letterHere wsX3_letterHere) := goodIn_app (goodIn_of _ (by decide +kernel)) ggX3_readOrder_X3_letterHere
set_option maxRecDepth 20000 in
theorem ggX3_readOrder_X3_readNumber : GoodIn wsX3_readOrder wsX3_readNumber := goodIn_r _ [13, 2, 14, 3, 4, 5, 6, 7, 8, 9, 29, 30, 31, 32, 33, 34, 35] (by decide +kernel) (by decide +kernel)
set_option maxRecDepth 20000 in
theorem gX3_readOrder_X3_readNumber : GoodIn wsX3_readOrder (wsV RX3 36 RX3 yX3_readNumber wsX3_readNumber) := goodIn_app (goodIn_of _ (by decide +kernel)) ggX3_readOrder_X3_readNumber
set_option maxRecDepth 20000 in
theorem ggX3_readOrder_X3_readGate : GoodIn wsX3_readOrder wsX3_readGate := goodIn_r _ [18, 19, 2, 3, 4, 5, 6, 7, 8, 9, 29, 30, 31, 32, 33, 34, 35] (by decide +kernel) (by decide +kernel)
set_option maxRecDepth 20000 in
theorem gX3_readOrder_X3_readGate : GoodIn wsX3_readOrder (wsV RX3 39 RX3 yX3_readGate wsX3_readGate) := goodIn_app (goodIn_of _ (by decide +kernel)) ggX3_readOrder_X3_readGate
set_option maxRecDepth 20000 in
theorem ggX3_readOrder_X3_readPassAndPace : GoodIn wsX3_readOrder wsX3_readPassAndPace := goodIn_r _ [23, 14, 24, 25, 26, 27, 6, 28, 2, 3, 4, 5, 7, 8, 9, 10, 11, 12, 13, 29, 30, 31, 32, 33, 34, 35] (by decide +kernel) (by decide +kernel)
set_option maxRecDepth 20000 in
theorem gX3_readOrder_X3_readPassAndPace : GoodIn wsX3_readOrder (wsV RX3 42 RX3 yX3_readPassAndPace wsX3_readPassAndPace) := goodIn_app (goodIn_of _ (by decide +kernel)) ggX3_readOrder_X3_readPassAndPace
set_option maxRecDepth 20000 in
theorem ggX3_readOrder_X3_skip : GoodIn wsX3_readOrder wsX3_skip := goodIn_r _ [28, 2, 3, 4, 5, 6, 7, 8, 9, 29, 30, 31, 32, 33, 34, 35] (by decide +kernel) (by decide +kernel)
set_option maxRecDepth 20000 in
theorem gX3_readOrder_X3_skip : GoodIn wsX3_readOrder (wsV RX3 46 RX3 yX3_skip wsX3_skip) := goodIn_app (goodIn_of _ (by decide +kernel)) ggX3_readOrder_X3_skip
theorem dX3_readOrder_0 : decode cX3_readOrder 0 = .ok (.aload_n 0, 1) := by decide +kernel
theorem dX3_readOrder_1 : decode cX3_readOrder 1 = .ok (.aload_n 0, 1) := by decide +kernel
theorem dX3_readOrder_2 : decode cX3_readOrder 2 = .ok (.invokevirtual 29, 3) := by decide +kernel
theorem dX3_readOrder_5 : decode cX3_readOrder 5 = .ok (.putfield 33, 3) := by decide +kernel
theorem dX3_readOrder_8 : decode cX3_readOrder 8 = .ok (.aload_n 0, 1) := by decide +kernel
theorem dX3_readOrder_9 : decode cX3_readOrder 9 = .ok (.getfield 33, 3) := by decide +kernel
theorem dX3_readOrder_12 : decode cX3_readOrder 12 = .ok (.bipush 105, 2) := by decide +kernel
theorem dX3_readOrder_14 : decode cX3_readOrder 14 = .ok (.if_icmp .eq 32, 3) := by decide +kernel
theorem dX3_readOrder_17 : decode cX3_readOrder 17 = .ok (.aload_n 0, 1) := by decide +kernel
theorem dX3_readOrder_18 : decode cX3_readOrder 18 = .ok (.getfield 33, 3) := by decide +kernel
theorem dX3_readOrder_21 : decode cX3_readOrder 21 = .ok (.bipush 111, 2) := by decide +kernel
theorem dX3_readOrder_23 : decode cX3_readOrder 23 = .ok (.if_icmp .eq 23, 3) := by decide +kernel
theorem dX3_readOrder_26 : decode cX3_readOrder 26 = .ok (.aload_n 0, 1) := by decide +kernel
theorem dX3_readOrder_27 : decode cX3_readOrder 27 = .ok (.getfield 33, 3) := by decide +kernel
theorem dX3_readOrder_30 : decode cX3_readOrder 30 = .ok (.bipush 116, 2) := by decide +kernel
theorem dX3_readOrder_32 : decode cX3_readOrder 32 = .ok (.if_icmp .eq 14, 3) := by decide +kernel
theorem dX3_readOrder_35 : decode cX3_readOrder 35 = .ok (.aload_n 0, 1) := by decide +kernel
theorem dX3_readOrder_36 : decode cX3_readOrder 36 = .ok (.getfield 33, 3) := by decide +kernel
theorem dX3_readOrder_39 : decode cX3_readOrder 39 = .ok (.bipush 120, 2) := by decide +kernel
theorem dX3_readOrder_41 : decode cX3_readOrder 41 = .ok (.if_icmp .eq 5, 3) := by decide +kernel
theorem dX3_readOrder_44 : decode cX3_readOrder 44 = .ok (.iconst 0, 1) := by decide +kernel
theorem dX3_readOrder_45 : decode cX3_readOrder 45 = .ok (.ireturn, 1) := by decide +kernel
theorem dX3_readOrder_46 : decode cX3_readOrder 46 = .ok (.aload_n 0, 1) := by decide +kernel
theorem dX3_readOrder_47 : decode cX3_readOrder 47 = .ok (.dup, 1) := by decide +kernel
theorem dX3_readOrder_48 : decode cX3_readOrder 48 = .ok (.getfield 19, 3) := by decide +kernel
theorem dX3_readOrder_51 : decode cX3_readOrder 51 = .ok (.iconst 1, 1) := by decide +kernel
theorem dX3_readOrder_52 : decode cX3_readOrder 52 = .ok (.iadd, 1) := by decide +kernel
theorem dX3_readOrder_53 : decode cX3_readOrder 53 = .ok (.putfield 19, 3) := by decide +kernel
theorem dX3_readOrder_56 : decode cX3_readOrder 56 = .ok (.aload_n 0, 1) := by decide +kernel
theorem dX3_readOrder_57 : decode cX3_readOrder 57 = .ok (.getfield 33, 3) := by decide +kernel
theorem dX3_readOrder_60 : decode cX3_readOrder 60 = .ok (.bipush 116, 2) := by decide +kernel
theorem dX3_readOrder_62 : decode cX3_readOrder 62 = .ok (.if_icmp .ne 9, 3) := by decide +kernel
theorem dX3_readOrder_65 : decode cX3_readOrder 65 = .ok (.aload_n 0, 1) := by decide +kernel
theorem dX3_readOrder_66 : decode cX3_readOrder 66 = .ok (.iconst 1, 1) := by decide +kernel
theorem dX3_readOrder_67 : decode cX3_readOrder 67 = .ok (.invokevirtual 36, 3) := by decide +kernel
theorem dX3_readOrder_70 : decode cX3_readOrder 70 = .ok (.ireturn, 1) := by decide +kernel
theorem dX3_readOrder_71 : decode cX3_readOrder 71 = .ok (.aload_n 0, 1) := by decide +kernel
theorem dX3_readOrder_72 : decode cX3_readOrder 72 = .ok (.iload_n 1, 1) := by decide +kernel
theorem dX3_readOrder_73 : decode cX3_readOrder 73 = .ok (.invokevirtual 39, 3) := by decide +kernel
theorem dX3_readOrder_76 : decode cX3_readOrder 76 = .ok (.ifCond .ne 5, 3) := by decide +kernel
theorem dX3_readOrder_79 : decode cX3_readOrder 79 = .ok (.iconst 0, 1) := by decide +kernel
theorem dX3_readOrder_80 : decode cX3_readOrder 80 = .ok (.ireturn, 1) := by decide +kernel
theorem dX3_readOrder_81 : decode cX3_readOrder 81 = .ok (.aload_n 0, 1) := by decide +kernel
theorem dX3_readOrder_82 : decode cX3_readOrder 82 = .ok (.getfield 33, 3) := by decide +kernel
theorem dX3_readOrder_85 : decode cX3_readOrder 85 = .ok (.bipush 105, 2) := by decide +kernel
theorem dX3_readOrder_87 : decode cX3_readOrder 87 = .ok (.if_icmp .ne 8, 3) := by decide +kernel
theorem dX3_readOrder_90 : decode cX3_readOrder 90 = .ok (.aload_n 0, 1) := by decide +kernel
theorem dX3_readOrder_91 : decode cX3_readOrder 91 = .ok (.invokevirtual 42, 3) := by decide +kernel
theorem dX3_readOrder_94 : decode cX3_readOrder 94 = .ok (.ireturn, 1) := by decide +kernel
theorem dX3_readOrder_95 : decode cX3_readOrder 95 = .ok (.aload_n 0, 1) := by decide +kernel
theorem dX3_readOrder_96 : decode cX3_readOrder 96 = .ok (.getfield 33, 3) := by decide +kernel
theorem dX3_readOrder_99 : decode cX3_readOrder 99 = .ok (.bipush 120, 2) := by decide +kernel
theorem dX3_readOrder_101 : decode cX3_readOrder 101 = .ok (.if_icmp .eq 20, 3) := by decide +kernel
theorem dX3_readOrder_104 : decode cX3_readOrder 104 = .ok (.aload_n 0, 1) := by decide +kernel
theorem dX3_readOrder_105 : decode cX3_readOrder 105 = .ok (.bipush 110, 2) := by decide +kernel
theorem dX3_readOrder_107 : decode cX3_readOrder 107 = .ok (.invokevirtual 46, 3) := by decide +kernel
theorem dX3_readOrder_110 : decode cX3_readOrder 110 = .ok (.ifCond .eq 15, 3) := by decide +kernel
theorem dX3_readOrder_113 : decode cX3_readOrder 113 = .ok (.aload_n 0, 1) := by decide +kernel
theorem dX3_readOrder_114 : decode cX3_readOrder 114 = .ok (.iconst 0, 1) := by decide +kernel
theorem dX3_readOrder_115 : decode cX3_readOrder 115 = .ok (.invokevirtual 36, 3) := by decide +kernel
theorem dX3_readOrder_118 : decode cX3_readOrder 118 = .ok (.ifCond .eq 7, 3) := by decide +kernel
theorem dX3_readOrder_121 : decode cX3_readOrder 121 = .ok (.iconst 1, 1) := by decide +kernel
theorem dX3_readOrder_122 : decode cX3_readOrder 122 = .ok (.goto 4, 3) := by decide +kernel
theorem dX3_readOrder_125 : decode cX3_readOrder 125 = .ok (.iconst 0, 1) := by decide +kernel
theorem dX3_readOrder_126 : decode cX3_readOrder 126 = .ok (.ireturn, 1) := by decide +kernel
set_option maxRecDepth 20000 in
theorem ggX3_readGate_X3_letterHere : GoodIn wsX3_readGate wsX3_letterHere := goodIn_r _ [7, 2, 8, 9, 10, 11, 12, 13, 14, 15, 16] (by decide +kernel) (by decide +kernel)
set_option maxRecDepth 20000 in
theorem gX3_readGate_X3_letterHere : GoodIn wsX3_readGate (wsV RX3 29 RX3 yX3_letterHere wsX3_letterHere) := goodIn_app (goodIn_of _ (by decide +kernel)) ggX3_readGate_X3_letterHere
theorem dX3_readGate_0 : decode cX3_readGate 0 = .ok (.aload_n 0, 1) := by decide +kernel
theorem dX3_readGate_1 : decode cX3_readGate 1 = .ok (.aload_n 0, 1) := by decide +kernel
theorem dX3_readGate_2 : decode cX3_readGate 2 = .ok (.invokevirtual 29, 3) := by decide +kernel
theorem dX3_readGate_5 : decode cX3_readGate 5 = .ok (.bipush 48, 2) := by decide +kernel
theorem dX3_readGate_7 : decode cX3_readGate 7 = .ok (.isub, 1) := by decide +kernel
theorem dX3_readGate_8 : decode cX3_readGate 8 = .ok (.putfield 50, 3) := by decide +kernel
theorem dX3_readGate_11 : decode cX3_readGate 11 = .ok (.aload_n 0, 1) := by decide +kernel
theorem dX3_readGate_12 : decode cX3_readGate 12 = .ok (.getfield 50, 3) := by decide +kernel
theorem dX3_readGate_15 : decode cX3_readGate 15 = .ok (.ifCond .lt 20, 3) := by decide +kernel
theorem dX3_readGate_18 : decode cX3_readGate 18 = .ok (.aload_n 0, 1) := by decide +kernel
theorem dX3_readGate_19 : decode cX3_readGate 19 = .ok (.getfield 50, 3) := by decide +kernel
theorem dX3_readGate_22 : decode cX3_readGate 22 = .ok (.bipush 9, 2) := by decide +kernel
theorem dX3_readGate_24 : decode cX3_readGate 24 = .ok (.if_icmp .gt 11, 3) := by decide +kernel
theorem dX3_readGate_27 : decode cX3_readGate 27 = .ok (.aload_n 0, 1) := by decide +kernel
theorem dX3_readGate_28 : decode cX3_readGate 28 = .ok (.getfield 50, 3) := by decide +kernel
theorem dX3_readGate_31 : decode cX3_readGate 31 = .ok (.iload_n 1, 1) := by decide +kernel
theorem dX3_readGate_32 : decode cX3_readGate 32 = .ok (.if_icmp .lt 5, 3) := by decide +kernel
theorem dX3_readGate_35 : decode cX3_readGate 35 = .ok (.iconst 0, 1) := by decide +kernel
theorem dX3_readGate_36 : decode cX3_readGate 36 = .ok (.ireturn, 1) := by decide +kernel
theorem dX3_readGate_37 : decode cX3_readGate 37 = .ok (.aload_n 0, 1) := by decide +kernel
theorem dX3_readGate_38 : decode cX3_readGate 38 = .ok (.dup, 1) := by decide +kernel
theorem dX3_readGate_39 : decode cX3_readGate 39 = .ok (.getfield 19, 3) := by decide +kernel
theorem dX3_readGate_42 : decode cX3_readGate 42 = .ok (.iconst 1, 1) := by decide +kernel
theorem dX3_readGate_43 : decode cX3_readGate 43 = .ok (.iadd, 1) := by decide +kernel
theorem dX3_readGate_44 : decode cX3_readGate 44 = .ok (.putfield 19, 3) := by decide +kernel
theorem dX3_readGate_47 : decode cX3_readGate 47 = .ok (.iconst 1, 1) := by decide +kernel
theorem dX3_readGate_48 : decode cX3_readGate 48 = .ok (.ireturn, 1) := by decide +kernel
set_option maxRecDepth 20000 in
theorem ggX3_readPassAndPace_X3_skip : GoodIn wsX3_readPassAndPace wsX3_skip := goodIn_r _ [7, 8, 9, 10, 11, 6, 12, 13, 14, 19, 20, 21, 22, 23, 24, 25] (by decide +kernel) (by decide +kernel)
set_option maxRecDepth 20000 in
theorem gX3_readPassAndPace_X3_skip : GoodIn wsX3_readPassAndPace (wsV RX3 46 RX3 yX3_skip wsX3_skip) := goodIn_app (goodIn_of _ (by decide +kernel)) ggX3_readPassAndPace_X3_skip
set_option maxRecDepth 20000 in
theorem ggX3_readPassAndPace_X3_readNumber : GoodIn wsX3_readPassAndPace wsX3_readNumber := goodIn_r _ [18, 8, 1, 9, 10, 11, 6, 12, 13, 14, 19, 20, 21, 22, 23, 24, 25] (by decide +kernel) (by decide +kernel)
set_option maxRecDepth 20000 in
theorem gX3_readPassAndPace_X3_readNumber : GoodIn wsX3_readPassAndPace (wsV RX3 36 RX3 yX3_readNumber wsX3_readNumber) := goodIn_app (goodIn_of _ (by decide +kernel)) ggX3_readPassAndPace_X3_readNumber
theorem dX3_readPassAndPace_0 : decode cX3_readPassAndPace 0 = .ok (.aload_n 0, 1) := by decide +kernel
theorem dX3_readPassAndPace_1 : decode cX3_readPassAndPace 1 = .ok (.iconst (-1), 1) := by decide +kernel
theorem dX3_readPassAndPace_2 : decode cX3_readPassAndPace 2 = .ok (.putfield 53, 3) := by decide +kernel
theorem dX3_readPassAndPace_5 : decode cX3_readPassAndPace 5 = .ok (.aload_n 0, 1) := by decide +kernel
theorem dX3_readPassAndPace_6 : decode cX3_readPassAndPace 6 = .ok (.bipush 112, 2) := by decide +kernel
theorem dX3_readPassAndPace_8 : decode cX3_readPassAndPace 8 = .ok (.invokevirtual 46, 3) := by decide +kernel
theorem dX3_readPassAndPace_11 : decode cX3_readPassAndPace 11 = .ok (.ifCond .eq 13, 3) := by decide +kernel
theorem dX3_readPassAndPace_14 : decode cX3_readPassAndPace 14 = .ok (.aload_n 0, 1) := by decide +kernel
theorem dX3_readPassAndPace_15 : decode cX3_readPassAndPace 15 = .ok (.iconst 0, 1) := by decide +kernel
theorem dX3_readPassAndPace_16 : decode cX3_readPassAndPace 16 = .ok (.invokevirtual 36, 3) := by decide +kernel
theorem dX3_readPassAndPace_19 : decode cX3_readPassAndPace 19 = .ok (.ifCond .ne 5, 3) := by decide +kernel
theorem dX3_readPassAndPace_22 : decode cX3_readPassAndPace 22 = .ok (.iconst 0, 1) := by decide +kernel
theorem dX3_readPassAndPace_23 : decode cX3_readPassAndPace 23 = .ok (.ireturn, 1) := by decide +kernel
theorem dX3_readPassAndPace_24 : decode cX3_readPassAndPace 24 = .ok (.aload_n 0, 1) := by decide +kernel
theorem dX3_readPassAndPace_25 : decode cX3_readPassAndPace 25 = .ok (.aload_n 0, 1) := by decide +kernel
theorem dX3_readPassAndPace_26 : decode cX3_readPassAndPace 26 = .ok (.bipush 115, 2) := by decide +kernel
theorem dX3_readPassAndPace_28 : decode cX3_readPassAndPace 28 = .ok (.invokevirtual 46, 3) := by decide +kernel
theorem dX3_readPassAndPace_31 : decode cX3_readPassAndPace 31 = .ok (.putfield 56, 3) := by decide +kernel
theorem dX3_readPassAndPace_34 : decode cX3_readPassAndPace 34 = .ok (.iconst 1, 1) := by decide +kernel
theorem dX3_readPassAndPace_35 : decode cX3_readPassAndPace 35 = .ok (.ireturn, 1) := by decide +kernel
set_option maxRecDepth 20000 in
theorem ggX3_readNumber_X3_letterHere : GoodIn wsX3_readNumber wsX3_letterHere := goodIn_r _ [7, 1, 8, 9, 10, 11, 12, 13, 14, 15, 16] (by decide +kernel) (by decide +kernel)
set_option maxRecDepth 20000 in
theorem gX3_readNumber_X3_letterHere : GoodIn wsX3_readNumber (wsV RX3 29 RX3 yX3_letterHere wsX3_letterHere) := goodIn_app (goodIn_of _ (by decide +kernel)) ggX3_readNumber_X3_letterHere
theorem dX3_readNumber_0 : decode cX3_readNumber 0 = .ok (.aload_n 0, 1) := by decide +kernel
theorem dX3_readNumber_1 : decode cX3_readNumber 1 = .ok (.invokevirtual 29, 3) := by decide +kernel
theorem dX3_readNumber_4 : decode cX3_readNumber 4 = .ok (.bipush 48, 2) := by decide +kernel
theorem dX3_readNumber_6 : decode cX3_readNumber 6 = .ok (.isub, 1) := by decide +kernel
theorem dX3_readNumber_7 : decode cX3_readNumber 7 = .ok (.istore_n 2, 1) := by decide +kernel
theorem dX3_readNumber_8 : decode cX3_readNumber 8 = .ok (.iload_n 2, 1) := by decide +kernel
theorem dX3_readNumber_9 : decode cX3_readNumber 9 = .ok (.iload_n 1, 1) := by decide +kernel
theorem dX3_readNumber_10 : decode cX3_readNumber 10 = .ok (.if_icmp .lt 9, 3) := by decide +kernel
theorem dX3_readNumber_13 : decode cX3_readNumber 13 = .ok (.iload_n 2, 1) := by decide +kernel
theorem dX3_readNumber_14 : decode cX3_readNumber 14 = .ok (.bipush 9, 2) := by decide +kernel
theorem dX3_readNumber_16 : decode cX3_readNumber 16 = .ok (.if_icmp .le 5, 3) := by decide +kernel
theorem dX3_readNumber_19 : decode cX3_readNumber 19 = .ok (.iconst 0, 1) := by decide +kernel
theorem dX3_readNumber_20 : decode cX3_readNumber 20 = .ok (.ireturn, 1) := by decide +kernel
theorem dX3_readNumber_21 : decode cX3_readNumber 21 = .ok (.aload_n 0, 1) := by decide +kernel
theorem dX3_readNumber_22 : decode cX3_readNumber 22 = .ok (.dup, 1) := by decide +kernel
theorem dX3_readNumber_23 : decode cX3_readNumber 23 = .ok (.getfield 19, 3) := by decide +kernel
theorem dX3_readNumber_26 : decode cX3_readNumber 26 = .ok (.iconst 1, 1) := by decide +kernel
theorem dX3_readNumber_27 : decode cX3_readNumber 27 = .ok (.iadd, 1) := by decide +kernel
theorem dX3_readNumber_28 : decode cX3_readNumber 28 = .ok (.putfield 19, 3) := by decide +kernel
theorem dX3_readNumber_31 : decode cX3_readNumber 31 = .ok (.aload_n 0, 1) := by decide +kernel
theorem dX3_readNumber_32 : decode cX3_readNumber 32 = .ok (.iload_n 2, 1) := by decide +kernel
theorem dX3_readNumber_33 : decode cX3_readNumber 33 = .ok (.putfield 53, 3) := by decide +kernel
theorem dX3_readNumber_36 : decode cX3_readNumber 36 = .ok (.aload_n 0, 1) := by decide +kernel
theorem dX3_readNumber_37 : decode cX3_readNumber 37 = .ok (.invokevirtual 29, 3) := by decide +kernel
theorem dX3_readNumber_40 : decode cX3_readNumber 40 = .ok (.bipush 48, 2) := by decide +kernel
theorem dX3_readNumber_42 : decode cX3_readNumber 42 = .ok (.isub, 1) := by decide +kernel
theorem dX3_readNumber_43 : decode cX3_readNumber 43 = .ok (.istore_n 3, 1) := by decide +kernel
theorem dX3_readNumber_44 : decode cX3_readNumber 44 = .ok (.iload_n 2, 1) := by decide +kernel
theorem dX3_readNumber_45 : decode cX3_readNumber 45 = .ok (.ifCond .le 33, 3) := by decide +kernel
theorem dX3_readNumber_48 : decode cX3_readNumber 48 = .ok (.iload_n 3, 1) := by decide +kernel
theorem dX3_readNumber_49 : decode cX3_readNumber 49 = .ok (.ifCond .lt 29, 3) := by decide +kernel
theorem dX3_readNumber_52 : decode cX3_readNumber 52 = .ok (.iload_n 3, 1) := by decide +kernel
theorem dX3_readNumber_53 : decode cX3_readNumber 53 = .ok (.bipush 9, 2) := by decide +kernel
theorem dX3_readNumber_55 : decode cX3_readNumber 55 = .ok (.if_icmp .gt 23, 3) := by decide +kernel
theorem dX3_readNumber_58 : decode cX3_readNumber 58 = .ok (.aload_n 0, 1) := by decide +kernel
theorem dX3_readNumber_59 : decode cX3_readNumber 59 = .ok (.dup, 1) := by decide +kernel
theorem dX3_readNumber_60 : decode cX3_readNumber 60 = .ok (.getfield 19, 3) := by decide +kernel
theorem dX3_readNumber_63 : decode cX3_readNumber 63 = .ok (.iconst 1, 1) := by decide +kernel
theorem dX3_readNumber_64 : decode cX3_readNumber 64 = .ok (.iadd, 1) := by decide +kernel
theorem dX3_readNumber_65 : decode cX3_readNumber 65 = .ok (.putfield 19, 3) := by decide +kernel
theorem dX3_readNumber_68 : decode cX3_readNumber 68 = .ok (.aload_n 0, 1) := by decide +kernel
theorem dX3_readNumber_69 : decode cX3_readNumber 69 = .ok (.bipush 10, 2) := by decide +kernel
theorem dX3_readNumber_71 : decode cX3_readNumber 71 = .ok (.iload_n 2, 1) := by decide +kernel
theorem dX3_readNumber_72 : decode cX3_readNumber 72 = .ok (.imul, 1) := by decide +kernel
theorem dX3_readNumber_73 : decode cX3_readNumber 73 = .ok (.iload_n 3, 1) := by decide +kernel
theorem dX3_readNumber_74 : decode cX3_readNumber 74 = .ok (.iadd, 1) := by decide +kernel
theorem dX3_readNumber_75 : decode cX3_readNumber 75 = .ok (.putfield 53, 3) := by decide +kernel
theorem dX3_readNumber_78 : decode cX3_readNumber 78 = .ok (.iconst 1, 1) := by decide +kernel
theorem dX3_readNumber_79 : decode cX3_readNumber 79 = .ok (.ireturn, 1) := by decide +kernel
set_option maxRecDepth 20000 in
theorem ggX3_skip_X3_letterHere : GoodIn wsX3_skip wsX3_letterHere := goodIn_r _ [6, 1, 7, 8, 9, 10, 11, 12, 13, 14, 15] (by decide +kernel) (by decide +kernel)
set_option maxRecDepth 20000 in
theorem gX3_skip_X3_letterHere : GoodIn wsX3_skip (wsV RX3 29 RX3 yX3_letterHere wsX3_letterHere) := goodIn_app (goodIn_of _ (by decide +kernel)) ggX3_skip_X3_letterHere
theorem dX3_skip_0 : decode cX3_skip 0 = .ok (.aload_n 0, 1) := by decide +kernel
theorem dX3_skip_1 : decode cX3_skip 1 = .ok (.invokevirtual 29, 3) := by decide +kernel
theorem dX3_skip_4 : decode cX3_skip 4 = .ok (.iload_n 1, 1) := by decide +kernel
theorem dX3_skip_5 : decode cX3_skip 5 = .ok (.if_icmp .eq 5, 3) := by decide +kernel
theorem dX3_skip_8 : decode cX3_skip 8 = .ok (.iconst 0, 1) := by decide +kernel
theorem dX3_skip_9 : decode cX3_skip 9 = .ok (.ireturn, 1) := by decide +kernel
theorem dX3_skip_10 : decode cX3_skip 10 = .ok (.aload_n 0, 1) := by decide +kernel
theorem dX3_skip_11 : decode cX3_skip 11 = .ok (.dup, 1) := by decide +kernel
theorem dX3_skip_12 : decode cX3_skip 12 = .ok (.getfield 19, 3) := by decide +kernel
theorem dX3_skip_15 : decode cX3_skip 15 = .ok (.iconst 1, 1) := by decide +kernel
theorem dX3_skip_16 : decode cX3_skip 16 = .ok (.iadd, 1) := by decide +kernel
theorem dX3_skip_17 : decode cX3_skip 17 = .ok (.putfield 19, 3) := by decide +kernel
theorem dX3_skip_20 : decode cX3_skip 20 = .ok (.iconst 1, 1) := by decide +kernel
theorem dX3_skip_21 : decode cX3_skip 21 = .ok (.ireturn, 1) := by decide +kernel
theorem dX3_letterHere_0 : decode cX3_letterHere 0 = .ok (.aload_n 0, 1) := by decide +kernel
theorem dX3_letterHere_1 : decode cX3_letterHere 1 = .ok (.getfield 19, 3) := by decide +kernel
theorem dX3_letterHere_4 : decode cX3_letterHere 4 = .ok (.ifCond .lt 38, 3) := by decide +kernel
theorem dX3_letterHere_7 : decode cX3_letterHere 7 = .ok (.aload_n 0, 1) := by decide +kernel
theorem dX3_letterHere_8 : decode cX3_letterHere 8 = .ok (.getfield 19, 3) := by decide +kernel
theorem dX3_letterHere_11 : decode cX3_letterHere 11 = .ok (.aload_n 0, 1) := by decide +kernel
theorem dX3_letterHere_12 : decode cX3_letterHere 12 = .ok (.getfield 15, 3) := by decide +kernel
theorem dX3_letterHere_15 : decode cX3_letterHere 15 = .ok (.if_icmp .ge 27, 3) := by decide +kernel
theorem dX3_letterHere_18 : decode cX3_letterHere 18 = .ok (.aload_n 0, 1) := by decide +kernel
theorem dX3_letterHere_19 : decode cX3_letterHere 19 = .ok (.getfield 19, 3) := by decide +kernel
theorem dX3_letterHere_22 : decode cX3_letterHere 22 = .ok (.aload_n 0, 1) := by decide +kernel
theorem dX3_letterHere_23 : decode cX3_letterHere 23 = .ok (.getfield 9, 3) := by decide +kernel
theorem dX3_letterHere_26 : decode cX3_letterHere 26 = .ok (.arraylength, 1) := by decide +kernel
theorem dX3_letterHere_27 : decode cX3_letterHere 27 = .ok (.if_icmp .ge 15, 3) := by decide +kernel
theorem dX3_letterHere_30 : decode cX3_letterHere 30 = .ok (.aload_n 0, 1) := by decide +kernel
theorem dX3_letterHere_31 : decode cX3_letterHere 31 = .ok (.getfield 9, 3) := by decide +kernel
theorem dX3_letterHere_34 : decode cX3_letterHere 34 = .ok (.aload_n 0, 1) := by decide +kernel
theorem dX3_letterHere_35 : decode cX3_letterHere 35 = .ok (.getfield 19, 3) := by decide +kernel
theorem dX3_letterHere_38 : decode cX3_letterHere 38 = .ok (.caload, 1) := by decide +kernel
theorem dX3_letterHere_39 : decode cX3_letterHere 39 = .ok (.goto 4, 3) := by decide +kernel
theorem dX3_letterHere_42 : decode cX3_letterHere 42 = .ok (.iconst (-1), 1) := by decide +kernel
theorem dX3_letterHere_43 : decode cX3_letterHere 43 = .ok (.ireturn, 1) := by decide +kernel
theorem dX4_init_0 : decode cX4_init 0 = .ok (.aload_n 0, 1) := by decide +kernel
theorem dX4_init_1 : decode cX4_init 1 = .ok (.invokespecial 3, 3) := by decide +kernel
theorem dX4_init_4 : decode cX4_init 4 = .ok (.aload_n 0, 1) := by decide +kernel
theorem dX4_init_5 : decode cX4_init 5 = .ok (.bipush (-5), 2) := by decide +kernel
theorem dX4_init_7 : decode cX4_init 7 = .ok (.putfield 9, 3) := by decide +kernel
theorem dX4_init_10 : decode cX4_init 10 = .ok (.return_, 1) := by decide +kernel
theorem dX4_setUp_0 : decode cX4_setUp 0 = .ok (.aload_n 0, 1) := by decide +kernel
theorem dX4_setUp_1 : decode cX4_setUp 1 = .ok (.iload_n 1, 1) := by decide +kernel
theorem dX4_setUp_2 : decode cX4_setUp 2 = .ok (.putfield 15, 3) := by decide +kernel
theorem dX4_setUp_5 : decode cX4_setUp 5 = .ok (.aload_n 0, 1) := by decide +kernel
theorem dX4_setUp_6 : decode cX4_setUp 6 = .ok (.iconst 0, 1) := by decide +kernel
theorem dX4_setUp_7 : decode cX4_setUp 7 = .ok (.putfield 18, 3) := by decide +kernel
theorem dX4_setUp_10 : decode cX4_setUp 10 = .ok (.aload_n 0, 1) := by decide +kernel
theorem dX4_setUp_11 : decode cX4_setUp 11 = .ok (.bipush (-5), 2) := by decide +kernel
theorem dX4_setUp_13 : decode cX4_setUp 13 = .ok (.putfield 9, 3) := by decide +kernel
theorem dX4_setUp_16 : decode cX4_setUp 16 = .ok (.return_, 1) := by decide +kernel
theorem dX4_copyFrom_0 : decode cX4_copyFrom 0 = .ok (.aload_n 0, 1) := by decide +kernel
theorem dX4_copyFrom_1 : decode cX4_copyFrom 1 = .ok (.aload_n 1, 1) := by decide +kernel
theorem dX4_copyFrom_2 : decode cX4_copyFrom 2 = .ok (.getfield 15, 3) := by decide +kernel
theorem dX4_copyFrom_5 : decode cX4_copyFrom 5 = .ok (.putfield 15, 3) := by decide +kernel
theorem dX4_copyFrom_8 : decode cX4_copyFrom 8 = .ok (.aload_n 0, 1) := by decide +kernel
theorem dX4_copyFrom_9 : decode cX4_copyFrom 9 = .ok (.aload_n 1, 1) := by decide +kernel
theorem dX4_copyFrom_10 : decode cX4_copyFrom 10 = .ok (.getfield 18, 3) := by decide +kernel
theorem dX4_copyFrom_13 : decode cX4_copyFrom 13 = .ok (.putfield 18, 3) := by decide +kernel
theorem dX4_copyFrom_16 : decode cX4_copyFrom 16 = .ok (.aload_n 0, 1) := by decide +kernel
theorem dX4_copyFrom_17 : decode cX4_copyFrom 17 = .ok (.aload_n 1, 1) := by decide +kernel
theorem dX4_copyFrom_18 : decode cX4_copyFrom 18 = .ok (.getfield 9, 3) := by decide +kernel
theorem dX4_copyFrom_21 : decode cX4_copyFrom 21 = .ok (.putfield 9, 3) := by decide +kernel
theorem dX4_copyFrom_24 : decode cX4_copyFrom 24 = .ok (.return_, 1) := by decide +kernel
theorem dX5_init_0 : decode cX5_init 0 = .ok (.aload_n 0, 1) := by decide +kernel
theorem dX5_init_1 : decode cX5_init 1 = .ok (.invokespecial 3, 3) := by decide +kernel
theorem dX5_init_4 : decode cX5_init 4 = .ok (.return_, 1) := by decide +kernel
theorem dX5_setUp_0 : decode cX5_setUp 0 = .ok (.aload_n 0, 1) := by decide +kernel
theorem dX5_setUp_1 : decode cX5_setUp 1 = .ok (.iload_n 1, 1) := by decide +kernel
theorem dX5_setUp_2 : decode cX5_setUp 2 = .ok (.putfield 9, 3) := by decide +kernel
theorem dX5_setUp_5 : decode cX5_setUp 5 = .ok (.aload_n 0, 1) := by decide +kernel
theorem dX5_setUp_6 : decode cX5_setUp 6 = .ok (.iload_n 2, 1) := by decide +kernel
theorem dX5_setUp_7 : decode cX5_setUp 7 = .ok (.putfield 15, 3) := by decide +kernel
theorem dX5_setUp_10 : decode cX5_setUp 10 = .ok (.aload_n 0, 1) := by decide +kernel
theorem dX5_setUp_11 : decode cX5_setUp 11 = .ok (.iconst 0, 1) := by decide +kernel
theorem dX5_setUp_12 : decode cX5_setUp 12 = .ok (.putfield 19, 3) := by decide +kernel
theorem dX5_setUp_15 : decode cX5_setUp 15 = .ok (.return_, 1) := by decide +kernel
theorem dX5_copyFrom_0 : decode cX5_copyFrom 0 = .ok (.aload_n 0, 1) := by decide +kernel
theorem dX5_copyFrom_1 : decode cX5_copyFrom 1 = .ok (.aload_n 1, 1) := by decide +kernel
theorem dX5_copyFrom_2 : decode cX5_copyFrom 2 = .ok (.getfield 9, 3) := by decide +kernel
theorem dX5_copyFrom_5 : decode cX5_copyFrom 5 = .ok (.putfield 9, 3) := by decide +kernel
theorem dX5_copyFrom_8 : decode cX5_copyFrom 8 = .ok (.aload_n 0, 1) := by decide +kernel
theorem dX5_copyFrom_9 : decode cX5_copyFrom 9 = .ok (.aload_n 1, 1) := by decide +kernel
theorem dX5_copyFrom_10 : decode cX5_copyFrom 10 = .ok (.getfield 15, 3) := by decide +kernel
theorem dX5_copyFrom_13 : decode cX5_copyFrom 13 = .ok (.putfield 15, 3) := by decide +kernel
theorem dX5_copyFrom_16 : decode cX5_copyFrom 16 = .ok (.aload_n 0, 1) := by decide +kernel
theorem dX5_copyFrom_17 : decode cX5_copyFrom 17 = .ok (.aload_n 1, 1) := by decide +kernel
theorem dX5_copyFrom_18 : decode cX5_copyFrom 18 = .ok (.getfield 22, 3) := by decide +kernel
theorem dX5_copyFrom_21 : decode cX5_copyFrom 21 = .ok (.putfield 22, 3) := by decide +kernel
theorem dX5_copyFrom_24 : decode cX5_copyFrom 24 = .ok (.aload_n 0, 1) := by decide +kernel
theorem dX5_copyFrom_25 : decode cX5_copyFrom 25 = .ok (.aload_n 1, 1) := by decide +kernel
theorem dX5_copyFrom_26 : decode cX5_copyFrom 26 = .ok (.getfield 25, 3) := by decide +kernel
theorem dX5_copyFrom_29 : decode cX5_copyFrom 29 = .ok (.putfield 25, 3) := by decide +kernel
theorem dX5_copyFrom_32 : decode cX5_copyFrom 32 = .ok (.aload_n 0, 1) := by decide +kernel
theorem dX5_copyFrom_33 : decode cX5_copyFrom 33 = .ok (.aload_n 1, 1) := by decide +kernel
theorem dX5_copyFrom_34 : decode cX5_copyFrom 34 = .ok (.getfield 19, 3) := by decide +kernel
theorem dX5_copyFrom_37 : decode cX5_copyFrom 37 = .ok (.putfield 19, 3) := by decide +kernel
theorem dX5_copyFrom_40 : decode cX5_copyFrom 40 = .ok (.aload_n 0, 1) := by decide +kernel
theorem dX5_copyFrom_41 : decode cX5_copyFrom 41 = .ok (.aload_n 1, 1) := by decide +kernel
theorem dX5_copyFrom_42 : decode cX5_copyFrom 42 = .ok (.getfield 28, 3) := by decide +kernel
theorem dX5_copyFrom_45 : decode cX5_copyFrom 45 = .ok (.putfield 28, 3) := by decide +kernel
theorem dX5_copyFrom_48 : decode cX5_copyFrom 48 = .ok (.aload_n 0, 1) := by decide +kernel
theorem dX5_copyFrom_49 : decode cX5_copyFrom 49 = .ok (.aload_n 1, 1) := by decide +kernel
theorem dX5_copyFrom_50 : decode cX5_copyFrom 50 = .ok (.getfield 31, 3) := by decide +kernel
theorem dX5_copyFrom_53 : decode cX5_copyFrom 53 = .ok (.putfield 31, 3) := by decide +kernel
theorem dX5_copyFrom_56 : decode cX5_copyFrom 56 = .ok (.return_, 1) := by decide +kernel
theorem dX5_waitAt_0 : decode cX5_waitAt 0 = .ok (.aload_n 0, 1) := by decide +kernel
theorem dX5_waitAt_1 : decode cX5_waitAt 1 = .ok (.iload_n 1, 1) := by decide +kernel
theorem dX5_waitAt_2 : decode cX5_waitAt 2 = .ok (.putfield 25, 3) := by decide +kernel
theorem dX5_waitAt_5 : decode cX5_waitAt 5 = .ok (.aload_n 0, 1) := by decide +kernel
theorem dX5_waitAt_6 : decode cX5_waitAt 6 = .ok (.iload_n 2, 1) := by decide +kernel
theorem dX5_waitAt_7 : decode cX5_waitAt 7 = .ok (.putfield 22, 3) := by decide +kernel
theorem dX5_waitAt_10 : decode cX5_waitAt 10 = .ok (.aload_n 0, 1) := by decide +kernel
theorem dX5_waitAt_11 : decode cX5_waitAt 11 = .ok (.iload_n 3, 1) := by decide +kernel
theorem dX5_waitAt_12 : decode cX5_waitAt 12 = .ok (.putfield 28, 3) := by decide +kernel
theorem dX5_waitAt_15 : decode cX5_waitAt 15 = .ok (.aload_n 0, 1) := by decide +kernel
theorem dX5_waitAt_16 : decode cX5_waitAt 16 = .ok (.iload_n 2, 1) := by decide +kernel
theorem dX5_waitAt_17 : decode cX5_waitAt 17 = .ok (.iconst 4, 1) := by decide +kernel
theorem dX5_waitAt_18 : decode cX5_waitAt 18 = .ok (.if_icmp .ne 7, 3) := by decide +kernel
theorem dX5_waitAt_21 : decode cX5_waitAt 21 = .ok (.iconst 1, 1) := by decide +kernel
theorem dX5_waitAt_22 : decode cX5_waitAt 22 = .ok (.goto 4, 3) := by decide +kernel
theorem dX5_waitAt_25 : decode cX5_waitAt 25 = .ok (.iconst 0, 1) := by decide +kernel
theorem dX5_waitAt_26 : decode cX5_waitAt 26 = .ok (.putfield 31, 3) := by decide +kernel
theorem dX5_waitAt_29 : decode cX5_waitAt 29 = .ok (.return_, 1) := by decide +kernel
theorem dX5_turnAway_0 : decode cX5_turnAway 0 = .ok (.aload_n 0, 1) := by decide +kernel
theorem dX5_turnAway_1 : decode cX5_turnAway 1 = .ok (.iconst 0, 1) := by decide +kernel
theorem dX5_turnAway_2 : decode cX5_turnAway 2 = .ok (.putfield 22, 3) := by decide +kernel
theorem dX5_turnAway_5 : decode cX5_turnAway 5 = .ok (.aload_n 0, 1) := by decide +kernel
theorem dX5_turnAway_6 : decode cX5_turnAway 6 = .ok (.bipush (-5), 2) := by decide +kernel
theorem dX5_turnAway_8 : decode cX5_turnAway 8 = .ok (.putfield 25, 3) := by decide +kernel
