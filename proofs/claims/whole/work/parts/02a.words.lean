def gG_0 : List Cond := [.selects "WatchList" yX3_placeOf yX3_placeOf, .selects "WatchList" yX3_openPlaceFor yX3_openPlaceFor, .selects "WatchList$Limit" yX1_begin yX1_begin, .selects "WatchList$Limit" yX1_turn yX1_turn, .selects "WatchList" yX3_closePlace yX3_closePlace, .selects "WatchList$Limit" yX1_breaksAt yX1_breaksAt, .selects "WatchList" yX3_waitOrLose yX3_waitOrLose, .selects "WatchList$Queue" yX2_append yX2_append, .selects "WatchList$Queue" yX2_firstEvent yX2_firstEvent, .selects "WatchList$Queue" yX2_firstNumber yX2_firstNumber, .selects "WatchList$Queue" yX2_takeFirst yX2_takeFirst, .selects "WatchList$Queue" yX2_empty yX2_empty, .selects "WatchList$Event" yX0_hasAction yX0_hasAction, .selects "WatchList$Event" yX0_takeAction yX0_takeAction, .selects "WatchList" yX3_actionFailure yX3_actionFailure, .selects "WatchList$Limit" yX1_tellOf yX1_tellOf, .selects "WatchList$Event" yX0_tellOf yX0_tellOf, .selects "WatchList$Event" yX0_byteAt yX0_byteAt, .selects "WatchListModel" yX4_limits yX4_limits, .selects "WatchListModel" yX4_isThere yX4_isThere, .selects "WatchListModel" yX4_waits yX4_waits, .initialized "WatchListLaw", .initialized "WatchList", .initialized "WatchList$Queue", .initialized "WatchList$Limit", .initialized "WatchList$Event", .initialized "WatchListModel", .initialized "java/lang/System", .classLink "WatchListLaw" 7 "WatchList", .instantiable "WatchList" 11, .methodLink "WatchListLaw" 9 yX3_init, .instanceMethod yX3_init, .code yX3_init prog_1_method_1_code 2 none, .methodLink "WatchList" 1 objectInit, .instanceMethod objectInit, .code objectInit object_method_1_code 1 none, .classLink "WatchList" 13 "WatchList$Limit", .classLink "WatchList" 19 "WatchList$Event", .classLink "WatchList" 25 "WatchList$Queue", .instantiable "WatchList$Queue" 4, .instanceMethod yX2_init, .code yX2_init prog_4_method_1_code 1 none, .methodLink "WatchList$Queue" 3 objectInit, .fieldLink "WatchList$Queue" 9 "WatchList$Queue" "events" "[I", .fieldLink "WatchList$Queue" 15 "WatchList$Queue" "numbers" "[I", .fieldLink "WatchList$Queue" 18 "WatchList$Queue" "first" "I", .fieldLink "WatchList$Queue" 22 "WatchList$Queue" "size" "I", .arrayClass .int, .instantiable "WatchList$Limit" 9, .instanceMethod yX1_init, .code yX1_init prog_3_method_1_code 1 none, .methodLink "WatchList$Limit" 3 objectInit, .fieldLink "WatchList$Limit" 9 "WatchList$Limit" "id" "I", .fieldLink "WatchList$Limit" 15 "WatchList$Limit" "parameter" "I", .fieldLink "WatchList$Limit" 18 "WatchList$Limit" "times" "I", .fieldLink "WatchList$Limit" 21 "WatchList$Limit" "low" "I", .fieldLink "WatchList$Limit" 24 "WatchList$Limit" "high" "I", .fieldLink "WatchList$Limit" 27 "WatchList$Limit" "event" "I", .fieldLink "WatchList$Limit" 30 "WatchList$Limit" "linked" "Z", .fieldLink "WatchList$Limit" 38 "WatchList$Limit" "on" "Z"]
def gG_1 : List Cond := [.fieldLink "WatchList$Limit" 41 "WatchList$Limit" "outside" "I", .arrayClass .byte, .instantiable "WatchList$Event" 4, .instanceMethod yX0_init, .code yX0_init prog_2_method_1_code 1 none, .methodLink "WatchList$Event" 3 objectInit, .fieldLink "WatchList$Event" 9 "WatchList$Event" "told" "Z", .fieldLink "WatchList$Event" 15 "WatchList$Event" "action" "[B", .fieldLink "WatchList$Event" 19 "WatchList$Event" "actionSize" "I", .fieldLink "WatchList$Event" 29 "WatchList$Event" "actionOn" "Z", .fieldLink "WatchList" 9 "WatchList" "parameters" "[I", .fieldLink "WatchList" 15 "WatchList" "limits" "[LWatchList$Limit;", .fieldLink "WatchList" 52 "WatchList" "limitCount" "I", .fieldLink "WatchList" 95 "WatchList" "brokenSoFar" "I", .fieldLink "WatchList" 76 "WatchList" "linkedBroken" "Z", .fieldLink "WatchList" 21 "WatchList" "events" "[LWatchList$Event;", .fieldLink "WatchList" 28 "WatchList" "waiting" "LWatchList$Queue;", .fieldLink "WatchList" 117 "WatchList" "lostSoFar" "I", .fieldLink "WatchList" 108 "WatchList" "workedNumber" "I", .fieldLink "WatchList" 32 "WatchList" "text" "[B", .fieldLink "WatchList" 123 "WatchList" "textSize" "I", .methodLink "WatchListLaw" 13 yX3_set, .instanceMethod yX3_set, .selects "WatchList" yX3_set yX3_set, .code yX3_set prog_1_method_2_code 3 (some .boolean), .methodLink "WatchList" 38 yX3_isParameter, .static yX3_isParameter, .code yX3_isParameter prog_1_method_20_code 1 (some .boolean), .methodLink "WatchListLaw" 18 yX3_add, .instanceMethod yX3_add, .selects "WatchList" yX3_add yX3_add, .code yX3_add prog_1_method_3_code 10 (some .int), .methodLink "WatchList" 42 yX3_isId, .static yX3_isId, .code yX3_isId prog_1_method_21_code 1 (some .boolean), .methodLink "WatchList" 45 yX3_isEvent, .static yX3_isEvent, .code yX3_isEvent prog_1_method_22_code 1 (some .boolean), .methodLink "WatchList" 48 yX3_placeOf, .instanceMethod yX3_placeOf, .code yX3_placeOf prog_1_method_24_code 3 (some .int), .methodLink "WatchList" 56 yX3_openPlaceFor, .instanceMethod yX3_openPlaceFor, .code yX3_openPlaceFor prog_1_method_25_code 4 (Option.some (.object "WatchList$Limit")), .instanceMethod yX1_begin, .code yX1_begin prog_3_method_2_code 8 none, .methodLink "WatchList$Limit" 34 yX1_turn, .instanceMethod yX1_turn, .code yX1_turn prog_3_method_3_code 2 none, .methodLink "WatchListLaw" 23 yX3_remove, .instanceMethod yX3_remove, .selects "WatchList" yX3_remove yX3_remove, .code yX3_remove prog_1_method_4_code 3 (some .int), .methodLink "WatchList" 68 yX3_closePlace, .instanceMethod yX3_closePlace, .code yX3_closePlace prog_1_method_26_code 4 none, .methodLink "WatchListLaw" 28 yX3_enable, .instanceMethod yX3_enable, .selects "WatchList" yX3_enable yX3_enable, .code yX3_enable prog_1_method_5_code 4 (some .int)]
def gG_2 : List Cond := [.methodLink "WatchListLaw" 33 yX3_watch, .instanceMethod yX3_watch, .selects "WatchList" yX3_watch yX3_watch, .code yX3_watch prog_1_method_6_code 5 (some .int), .instanceMethod yX1_breaksAt, .code yX1_breaksAt prog_3_method_4_code 2 (some .boolean), .methodLink "WatchList" 91 yX3_waitOrLose, .instanceMethod yX3_waitOrLose, .code yX3_waitOrLose prog_1_method_27_code 3 (some .boolean), .instanceMethod yX2_append, .code yX2_append prog_4_method_2_code 4 none, .methodLink "WatchListLaw" 38 yX3_linked, .instanceMethod yX3_linked, .selects "WatchList" yX3_linked yX3_linked, .code yX3_linked prog_1_method_7_code 1 (some .boolean), .methodLink "WatchListLaw" 43 yX3_raise, .instanceMethod yX3_raise, .selects "WatchList" yX3_raise yX3_raise, .code yX3_raise prog_1_method_8_code 3 (some .boolean), .methodLink "WatchListLaw" 47 yX3_work, .instanceMethod yX3_work, .selects "WatchList" yX3_work yX3_work, .code yX3_work prog_1_method_9_code 2 (some .int), .instanceMethod yX2_firstEvent, .code yX2_firstEvent prog_4_method_3_code 1 (some .int), .instanceMethod yX2_firstNumber, .code yX2_firstNumber prog_4_method_4_code 1 (some .int), .instanceMethod yX2_takeFirst, .code yX2_takeFirst prog_4_method_5_code 1 none, .methodLink "WatchListLaw" 51 yX3_lose, .instanceMethod yX3_lose, .selects "WatchList" yX3_lose yX3_lose, .code yX3_lose prog_1_method_10_code 2 (some .int), .instanceMethod yX2_empty, .code yX2_empty prog_4_method_6_code 1 none, .methodLink "WatchListLaw" 55 yX3_tell, .instanceMethod yX3_tell, .selects "WatchList" yX3_tell yX3_tell, .code yX3_tell prog_1_method_11_code 3 (some .int), .methodLink "WatchListLaw" 59 yX3_put, .instanceMethod yX3_put, .selects "WatchList" yX3_put yX3_put, .code yX3_put prog_1_method_12_code 2 (some .int), .methodLink "WatchListLaw" 63 yX3_act, .instanceMethod yX3_act, .selects "WatchList" yX3_act yX3_act, .code yX3_act prog_1_method_13_code 3 (some .int), .instanceMethod yX0_hasAction, .code yX0_hasAction prog_2_method_2_code 1 (some .boolean), .instanceMethod yX0_takeAction, .code yX0_takeAction prog_2_method_3_code 3 none, .methodLink "WatchList$Event" 23 arraycopyName, .static arraycopyName, .native arraycopyName, .methodLink "WatchListLaw" 67 yX3_drop, .instanceMethod yX3_drop, .selects "WatchList" yX3_drop yX3_drop, .code yX3_drop prog_1_method_14_code 3 (some .int), .methodLink "WatchList" 134 yX3_actionFailure, .instanceMethod yX3_actionFailure]
def gG_3 : List Cond := [.code yX3_actionFailure prog_1_method_28_code 2 (some .int), .methodLink "WatchListLaw" 71 yX3_arm, .instanceMethod yX3_arm, .selects "WatchList" yX3_arm yX3_arm, .code yX3_arm prog_1_method_15_code 4 (some .int), .methodLink "WatchListLaw" 75 yX3_limit, .instanceMethod yX3_limit, .selects "WatchList" yX3_limit yX3_limit, .code yX3_limit prog_1_method_16_code 4 (some .int), .instanceMethod yX1_tellOf, .code yX1_tellOf prog_3_method_5_code 2 (some .int), .static yX3_oneIf, .code yX3_oneIf prog_1_method_23_code 1 (some .int), .methodLink "WatchListLaw" 80 yX3_event, .instanceMethod yX3_event, .selects "WatchList" yX3_event yX3_event, .code yX3_event prog_1_method_17_code 3 (some .int), .instanceMethod yX0_tellOf, .code yX0_tellOf prog_2_method_5_code 2 (some .int), .methodLink "WatchListLaw" 84 yX3_actionAt, .instanceMethod yX3_actionAt, .selects "WatchList" yX3_actionAt yX3_actionAt, .code yX3_actionAt prog_1_method_18_code 3 (some .int), .instanceMethod yX0_byteAt, .code yX0_byteAt prog_2_method_4_code 2 (some .int), .methodLink "WatchListLaw" 88 yX3_count, .instanceMethod yX3_count, .selects "WatchList" yX3_count yX3_count, .code yX3_count prog_1_method_19_code 2 (some .int), .classLink "WatchListLaw" 10 "WatchListModel", .instantiable "WatchListModel" 24, .methodLink "WatchListLaw" 12 yX4_init, .instanceMethod yX4_init, .code yX4_init prog_6_method_1_code 1 none, .methodLink "WatchListModel" 1 objectInit, .fieldLink "WatchListModel" 63 "WatchListModel" "thrown" "I", .fieldLink "WatchListModel" 7 "WatchListModel" "parameters" "[I", .fieldLink "WatchListModel" 13 "WatchListModel" "there" "[Z", .fieldLink "WatchListModel" 17 "WatchListModel" "on" "[Z", .fieldLink "WatchListModel" 20 "WatchListModel" "links" "[Z", .fieldLink "WatchListModel" 23 "WatchListModel" "of" "[I", .fieldLink "WatchListModel" 26 "WatchListModel" "times" "[I", .fieldLink "WatchListModel" 29 "WatchListModel" "low" "[I", .fieldLink "WatchListModel" 32 "WatchListModel" "high" "[I", .fieldLink "WatchListModel" 35 "WatchListModel" "raises" "[I", .fieldLink "WatchListModel" 38 "WatchListModel" "counts" "[I", .fieldLink "WatchListModel" 93 "WatchListModel" "broken" "I", .fieldLink "WatchListModel" 85 "WatchListModel" "linked" "Z", .fieldLink "WatchListModel" 79 "WatchListModel" "waiting" "I", .fieldLink "WatchListModel" 41 "WatchListModel" "events" "[I", .fieldLink "WatchListModel" 44 "WatchListModel" "numbers" "[I", .fieldLink "WatchListModel" 82 "WatchListModel" "lost" "I", .fieldLink "WatchListModel" 99 "WatchListModel" "worked" "I", .fieldLink "WatchListModel" 47 "WatchListModel" "silent" "[Z", .fieldLink "WatchListModel" 50 "WatchListModel" "sizes" "[I", .fieldLink "WatchListModel" 53 "WatchListModel" "armed" "[Z", .fieldLink "WatchListModel" 56 "WatchListModel" "actions" "[B", .fieldLink "WatchListModel" 102 "WatchListModel" "size" "I", .fieldLink "WatchListModel" 60 "WatchListModel" "text" "[B", .arrayClass .boolean]
def gG_4 : List Cond := [.methodLink "WatchListLaw" 17 yX4_set, .instanceMethod yX4_set, .selects "WatchListModel" yX4_set yX4_set, .code yX4_set prog_6_method_3_code 3 (some .boolean), .methodLink "WatchListLaw" 22 yX4_add, .instanceMethod yX4_add, .selects "WatchListModel" yX4_add yX4_add, .code yX4_add prog_6_method_7_code 8 (some .int), .methodLink "WatchListModel" 67 yX4_isIn, .static yX4_isIn, .code yX4_isIn prog_6_method_6_code 3 (some .boolean), .methodLink "WatchListModel" 71 yX4_limits, .instanceMethod yX4_limits, .code yX4_limits prog_6_method_5_code 3 (some .int), .methodLink "WatchListLaw" 27 yX4_remove, .instanceMethod yX4_remove, .selects "WatchListModel" yX4_remove yX4_remove, .code yX4_remove prog_6_method_8_code 2 (some .int), .methodLink "WatchListModel" 75 yX4_isThere, .instanceMethod yX4_isThere, .code yX4_isThere prog_6_method_4_code 2 (some .boolean), .methodLink "WatchListLaw" 32 yX4_enable, .instanceMethod yX4_enable, .selects "WatchListModel" yX4_enable yX4_enable, .code yX4_enable prog_6_method_9_code 3 (some .int), .methodLink "WatchListLaw" 37 yX4_watch, .instanceMethod yX4_watch, .selects "WatchListModel" yX4_watch yX4_watch, .code yX4_watch prog_6_method_11_code 5 (some .int), .methodLink "WatchListModel" 89 yX4_waits, .instanceMethod yX4_waits, .code yX4_waits prog_6_method_10_code 3 (some .boolean), .methodLink "WatchListLaw" 42 yX4_linked, .instanceMethod yX4_linked, .selects "WatchListModel" yX4_linked yX4_linked, .code yX4_linked prog_6_method_12_code 1 (some .boolean), .methodLink "WatchListLaw" 46 yX4_raise, .instanceMethod yX4_raise, .selects "WatchListModel" yX4_raise yX4_raise, .code yX4_raise prog_6_method_14_code 3 (some .boolean), .methodLink "WatchListModel" 96 yX4_isEvent, .static yX4_isEvent, .code yX4_isEvent prog_6_method_13_code 1 (some .boolean), .methodLink "WatchListLaw" 50 yX4_work, .instanceMethod yX4_work, .selects "WatchListModel" yX4_work yX4_work, .code yX4_work prog_6_method_15_code 3 (some .int), .methodLink "WatchListLaw" 54 yX4_lose, .instanceMethod yX4_lose, .selects "WatchListModel" yX4_lose yX4_lose, .code yX4_lose prog_6_method_16_code 2 (some .int), .methodLink "WatchListLaw" 58 yX4_tell, .instanceMethod yX4_tell, .selects "WatchListModel" yX4_tell yX4_tell, .code yX4_tell prog_6_method_17_code 3 (some .int), .methodLink "WatchListLaw" 62 yX4_put, .instanceMethod yX4_put, .selects "WatchListModel" yX4_put yX4_put, .code yX4_put prog_6_method_18_code 2 (some .int), .methodLink "WatchListLaw" 66 yX4_act]
def gG_5 : List Cond := [.instanceMethod yX4_act, .selects "WatchListModel" yX4_act yX4_act, .code yX4_act prog_6_method_19_code 4 (some .int), .methodLink "WatchListLaw" 70 yX4_drop, .instanceMethod yX4_drop, .selects "WatchListModel" yX4_drop yX4_drop, .code yX4_drop prog_6_method_20_code 2 (some .int), .methodLink "WatchListLaw" 74 yX4_arm, .instanceMethod yX4_arm, .selects "WatchListModel" yX4_arm yX4_arm, .code yX4_arm prog_6_method_21_code 3 (some .int), .methodLink "WatchListLaw" 79 yX4_limit, .instanceMethod yX4_limit, .selects "WatchListModel" yX4_limit yX4_limit, .code yX4_limit prog_6_method_22_code 3 (some .int), .methodLink "WatchListLaw" 83 yX4_event, .instanceMethod yX4_event, .selects "WatchListModel" yX4_event yX4_event, .code yX4_event prog_6_method_23_code 3 (some .int), .methodLink "WatchListLaw" 87 yX4_actionAt, .instanceMethod yX4_actionAt, .selects "WatchListModel" yX4_actionAt yX4_actionAt, .code yX4_actionAt prog_6_method_24_code 3 (some .int), .methodLink "WatchListLaw" 91 yX4_count, .instanceMethod yX4_count, .selects "WatchListModel" yX4_count yX4_count, .code yX4_count prog_6_method_25_code 2 (some .int)]
def gG : List Cond := gG_0 ++ (gG_1 ++ (gG_2 ++ (gG_3 ++ (gG_4 ++ (gG_5 ++ (wsX00 ++ wsX10 ++ wsX20 ++ wsX30 ++ wsX40))))))
theorem mG_0 : (.selects "WatchList" yX3_placeOf yX3_placeOf : Cond) ∈ gG := (List.mem_append_left _ (List.mem_of_getElem? (i := 0) rfl))
theorem mG_1 : (.selects "WatchList" yX3_openPlaceFor yX3_openPlaceFor : Cond) ∈ gG := (List.mem_append_left _ (List.mem_of_getElem? (i := 1) rfl))
theorem mG_2 : (.selects "WatchList$Limit" yX1_begin yX1_begin : Cond) ∈ gG := (List.mem_append_left _ (List.mem_of_getElem? (i := 2) rfl))
theorem mG_3 : (.selects "WatchList$Limit" yX1_turn yX1_turn : Cond) ∈ gG := (List.mem_append_left _ (List.mem_of_getElem? (i := 3) rfl))
theorem mG_4 : (.selects "WatchList" yX3_closePlace yX3_closePlace : Cond) ∈ gG := (List.mem_append_left _ (List.mem_of_getElem? (i := 4) rfl))
theorem mG_5 : (.selects "WatchList$Limit" yX1_breaksAt yX1_breaksAt : Cond) ∈ gG := (List.mem_append_left _ (List.mem_of_getElem? (i := 5) rfl))
theorem mG_6 : (.selects "WatchList" yX3_waitOrLose yX3_waitOrLose : Cond) ∈ gG := (List.mem_append_left _ (List.mem_of_getElem? (i := 6) rfl))
theorem mG_7 : (.selects "WatchList$Queue" yX2_append yX2_append : Cond) ∈ gG := (List.mem_append_left _ (List.mem_of_getElem? (i := 7) rfl))
theorem mG_8 : (.selects "WatchList$Queue" yX2_firstEvent yX2_firstEvent : Cond) ∈ gG := (List.mem_append_left _ (List.mem_of_getElem? (i := 8) rfl))
theorem mG_9 : (.selects "WatchList$Queue" yX2_firstNumber yX2_firstNumber : Cond) ∈ gG := (List.mem_append_left _ (List.mem_of_getElem? (i := 9) rfl))
theorem mG_10 : (.selects "WatchList$Queue" yX2_takeFirst yX2_takeFirst : Cond) ∈ gG := (List.mem_append_left _ (List.mem_of_getElem? (i := 10) rfl))
theorem mG_11 : (.selects "WatchList$Queue" yX2_empty yX2_empty : Cond) ∈ gG := (List.mem_append_left _ (List.mem_of_getElem? (i := 11) rfl))
theorem mG_12 : (.selects "WatchList$Event" yX0_hasAction yX0_hasAction : Cond) ∈ gG := (List.mem_append_left _ (List.mem_of_getElem? (i := 12) rfl))
theorem mG_13 : (.selects "WatchList$Event" yX0_takeAction yX0_takeAction : Cond) ∈ gG := (List.mem_append_left _ (List.mem_of_getElem? (i := 13) rfl))
theorem mG_14 : (.selects "WatchList" yX3_actionFailure yX3_actionFailure : Cond) ∈ gG := (List.mem_append_left _ (List.mem_of_getElem? (i := 14) rfl))
theorem mG_15 : (.selects "WatchList$Limit" yX1_tellOf yX1_tellOf : Cond) ∈ gG := (List.mem_append_left _ (List.mem_of_getElem? (i := 15) rfl))
theorem mG_16 : (.selects "WatchList$Event" yX0_tellOf yX0_tellOf : Cond) ∈ gG := (List.mem_append_left _ (List.mem_of_getElem? (i := 16) rfl))
theorem mG_17 : (.selects "WatchList$Event" yX0_byteAt yX0_byteAt : Cond) ∈ gG := (List.mem_append_left _ (List.mem_of_getElem? (i := 17) rfl))
theorem mG_18 : (.selects "WatchListModel" yX4_limits yX4_limits : Cond) ∈ gG := (List.mem_append_left _ (List.mem_of_getElem? (i := 18) rfl))
theorem mG_19 : (.selects "WatchListModel" yX4_isThere yX4_isThere : Cond) ∈ gG := (List.mem_append_left _ (List.mem_of_getElem? (i := 19) rfl))
theorem mG_20 : (.selects "WatchListModel" yX4_waits yX4_waits : Cond) ∈ gG := (List.mem_append_left _ (List.mem_of_getElem? (i := 20) rfl))
theorem mG_21 : (.initialized "WatchListLaw" : Cond) ∈ gG := (List.mem_append_left _ (List.mem_of_getElem? (i := 21) rfl))
theorem mG_22 : (.initialized "WatchList" : Cond) ∈ gG := (List.mem_append_left _ (List.mem_of_getElem? (i := 22) rfl))
theorem mG_23 : (.initialized "WatchList$Queue" : Cond) ∈ gG := (List.mem_append_left _ (List.mem_of_getElem? (i := 23) rfl))
theorem mG_24 : (.initialized "WatchList$Limit" : Cond) ∈ gG := (List.mem_append_left _ (List.mem_of_getElem? (i := 24) rfl))
theorem mG_25 : (.initialized "WatchList$Event" : Cond) ∈ gG := (List.mem_append_left _ (List.mem_of_getElem? (i := 25) rfl))
theorem mG_26 : (.initialized "WatchListModel" : Cond) ∈ gG := (List.mem_append_left _ (List.mem_of_getElem? (i := 26) rfl))
theorem mG_27 : (.initialized "java/lang/System" : Cond) ∈ gG := (List.mem_append_left _ (List.mem_of_getElem? (i := 27) rfl))
theorem mG_28 : (.classLink "WatchListLaw" 7 "WatchList" : Cond) ∈ gG := (List.mem_append_left _ (List.mem_of_getElem? (i := 28) rfl))
theorem mG_29 : (.instantiable "WatchList" 11 : Cond) ∈ gG := (List.mem_append_left _ (List.mem_of_getElem? (i := 29) rfl))
theorem mG_30 : (.methodLink "WatchListLaw" 9 yX3_init : Cond) ∈ gG := (List.mem_append_left _ (List.mem_of_getElem? (i := 30) rfl))
theorem mG_31 : (.instanceMethod yX3_init : Cond) ∈ gG := (List.mem_append_left _ (List.mem_of_getElem? (i := 31) rfl))
theorem mG_32 : (.code yX3_init prog_1_method_1_code 2 none : Cond) ∈ gG := (List.mem_append_left _ (List.mem_of_getElem? (i := 32) rfl))
theorem mG_33 : (.methodLink "WatchList" 1 objectInit : Cond) ∈ gG := (List.mem_append_left _ (List.mem_of_getElem? (i := 33) rfl))
theorem mG_34 : (.instanceMethod objectInit : Cond) ∈ gG := (List.mem_append_left _ (List.mem_of_getElem? (i := 34) rfl))
theorem mG_35 : (.code objectInit object_method_1_code 1 none : Cond) ∈ gG := (List.mem_append_left _ (List.mem_of_getElem? (i := 35) rfl))
theorem mG_36 : (.classLink "WatchList" 13 "WatchList$Limit" : Cond) ∈ gG := (List.mem_append_left _ (List.mem_of_getElem? (i := 36) rfl))
theorem mG_37 : (.classLink "WatchList" 19 "WatchList$Event" : Cond) ∈ gG := (List.mem_append_left _ (List.mem_of_getElem? (i := 37) rfl))
theorem mG_38 : (.classLink "WatchList" 25 "WatchList$Queue" : Cond) ∈ gG := (List.mem_append_left _ (List.mem_of_getElem? (i := 38) rfl))
theorem mG_39 : (.instantiable "WatchList$Queue" 4 : Cond) ∈ gG := (List.mem_append_left _ (List.mem_of_getElem? (i := 39) rfl))
theorem mG_40 : (.instanceMethod yX2_init : Cond) ∈ gG := (List.mem_append_left _ (List.mem_of_getElem? (i := 40) rfl))
theorem mG_41 : (.code yX2_init prog_4_method_1_code 1 none : Cond) ∈ gG := (List.mem_append_left _ (List.mem_of_getElem? (i := 41) rfl))
theorem mG_42 : (.methodLink "WatchList$Queue" 3 objectInit : Cond) ∈ gG := (List.mem_append_left _ (List.mem_of_getElem? (i := 42) rfl))
theorem mG_43 : (.fieldLink "WatchList$Queue" 9 "WatchList$Queue" "events" "[I" : Cond) ∈ gG := (List.mem_append_left _ (List.mem_of_getElem? (i := 43) rfl))
theorem mG_44 : (.fieldLink "WatchList$Queue" 15 "WatchList$Queue" "numbers" "[I" : Cond) ∈ gG := (List.mem_append_left _ (List.mem_of_getElem? (i := 44) rfl))
theorem mG_45 : (.fieldLink "WatchList$Queue" 18 "WatchList$Queue" "first" "I" : Cond) ∈ gG := (List.mem_append_left _ (List.mem_of_getElem? (i := 45) rfl))
theorem mG_46 : (.fieldLink "WatchList$Queue" 22 "WatchList$Queue" "size" "I" : Cond) ∈ gG := (List.mem_append_left _ (List.mem_of_getElem? (i := 46) rfl))
theorem mG_47 : (.arrayClass .int : Cond) ∈ gG := (List.mem_append_left _ (List.mem_of_getElem? (i := 47) rfl))
theorem mG_48 : (.instantiable "WatchList$Limit" 9 : Cond) ∈ gG := (List.mem_append_left _ (List.mem_of_getElem? (i := 48) rfl))
theorem mG_49 : (.instanceMethod yX1_init : Cond) ∈ gG := (List.mem_append_left _ (List.mem_of_getElem? (i := 49) rfl))
theorem mG_50 : (.code yX1_init prog_3_method_1_code 1 none : Cond) ∈ gG := (List.mem_append_left _ (List.mem_of_getElem? (i := 50) rfl))
theorem mG_51 : (.methodLink "WatchList$Limit" 3 objectInit : Cond) ∈ gG := (List.mem_append_left _ (List.mem_of_getElem? (i := 51) rfl))
theorem mG_52 : (.fieldLink "WatchList$Limit" 9 "WatchList$Limit" "id" "I" : Cond) ∈ gG := (List.mem_append_left _ (List.mem_of_getElem? (i := 52) rfl))
theorem mG_53 : (.fieldLink "WatchList$Limit" 15 "WatchList$Limit" "parameter" "I" : Cond) ∈ gG := (List.mem_append_left _ (List.mem_of_getElem? (i := 53) rfl))
theorem mG_54 : (.fieldLink "WatchList$Limit" 18 "WatchList$Limit" "times" "I" : Cond) ∈ gG := (List.mem_append_left _ (List.mem_of_getElem? (i := 54) rfl))
theorem mG_55 : (.fieldLink "WatchList$Limit" 21 "WatchList$Limit" "low" "I" : Cond) ∈ gG := (List.mem_append_left _ (List.mem_of_getElem? (i := 55) rfl))
theorem mG_56 : (.fieldLink "WatchList$Limit" 24 "WatchList$Limit" "high" "I" : Cond) ∈ gG := (List.mem_append_left _ (List.mem_of_getElem? (i := 56) rfl))
theorem mG_57 : (.fieldLink "WatchList$Limit" 27 "WatchList$Limit" "event" "I" : Cond) ∈ gG := (List.mem_append_left _ (List.mem_of_getElem? (i := 57) rfl))
theorem mG_58 : (.fieldLink "WatchList$Limit" 30 "WatchList$Limit" "linked" "Z" : Cond) ∈ gG := (List.mem_append_left _ (List.mem_of_getElem? (i := 58) rfl))
theorem mG_59 : (.fieldLink "WatchList$Limit" 38 "WatchList$Limit" "on" "Z" : Cond) ∈ gG := (List.mem_append_left _ (List.mem_of_getElem? (i := 59) rfl))
theorem mG_60 : (.fieldLink "WatchList$Limit" 41 "WatchList$Limit" "outside" "I" : Cond) ∈ gG := (List.mem_append_right _ (List.mem_append_left _ (List.mem_of_getElem? (i := 0) rfl)))
theorem mG_61 : (.arrayClass .byte : Cond) ∈ gG := (List.mem_append_right _ (List.mem_append_left _ (List.mem_of_getElem? (i := 1) rfl)))
theorem mG_62 : (.instantiable "WatchList$Event" 4 : Cond) ∈ gG := (List.mem_append_right _ (List.mem_append_left _ (List.mem_of_getElem? (i := 2) rfl)))
theorem mG_63 : (.instanceMethod yX0_init : Cond) ∈ gG := (List.mem_append_right _ (List.mem_append_left _ (List.mem_of_getElem? (i := 3) rfl)))
theorem mG_64 : (.code yX0_init prog_2_method_1_code 1 none : Cond) ∈ gG := (List.mem_append_right _ (List.mem_append_left _ (List.mem_of_getElem? (i := 4) rfl)))
theorem mG_65 : (.methodLink "WatchList$Event" 3 objectInit : Cond) ∈ gG := (List.mem_append_right _ (List.mem_append_left _ (List.mem_of_getElem? (i := 5) rfl)))
theorem mG_66 : (.fieldLink "WatchList$Event" 9 "WatchList$Event" "told" "Z" : Cond) ∈ gG := (List.mem_append_right _ (List.mem_append_left _ (List.mem_of_getElem? (i := 6) rfl)))
theorem mG_67 : (.fieldLink "WatchList$Event" 15 "WatchList$Event" "action" "[B" : Cond) ∈ gG := (List.mem_append_right _ (List.mem_append_left _ (List.mem_of_getElem? (i := 7) rfl)))
theorem mG_68 : (.fieldLink "WatchList$Event" 19 "WatchList$Event" "actionSize" "I" : Cond) ∈ gG := (List.mem_append_right _ (List.mem_append_left _ (List.mem_of_getElem? (i := 8) rfl)))
theorem mG_69 : (.fieldLink "WatchList$Event" 29 "WatchList$Event" "actionOn" "Z" : Cond) ∈ gG := (List.mem_append_right _ (List.mem_append_left _ (List.mem_of_getElem? (i := 9) rfl)))
theorem mG_70 : (.fieldLink "WatchList" 9 "WatchList" "parameters" "[I" : Cond) ∈ gG := (List.mem_append_right _ (List.mem_append_left _ (List.mem_of_getElem? (i := 10) rfl)))
theorem mG_71 : (.fieldLink "WatchList" 15 "WatchList" "limits" "[LWatchList$Limit;" : Cond) ∈ gG := (List.mem_append_right _ (List.mem_append_left _ (List.mem_of_getElem? (i := 11) rfl)))
theorem mG_72 : (.fieldLink "WatchList" 52 "WatchList" "limitCount" "I" : Cond) ∈ gG := (List.mem_append_right _ (List.mem_append_left _ (List.mem_of_getElem? (i := 12) rfl)))
theorem mG_73 : (.fieldLink "WatchList" 95 "WatchList" "brokenSoFar" "I" : Cond) ∈ gG := (List.mem_append_right _ (List.mem_append_left _ (List.mem_of_getElem? (i := 13) rfl)))
theorem mG_74 : (.fieldLink "WatchList" 76 "WatchList" "linkedBroken" "Z" : Cond) ∈ gG := (List.mem_append_right _ (List.mem_append_left _ (List.mem_of_getElem? (i := 14) rfl)))
theorem mG_75 : (.fieldLink "WatchList" 21 "WatchList" "events" "[LWatchList$Event;" : Cond) ∈ gG := (List.mem_append_right _ (List.mem_append_left _ (List.mem_of_getElem? (i := 15) rfl)))
theorem mG_76 : (.fieldLink "WatchList" 28 "WatchList" "waiting" "LWatchList$Queue;" : Cond) ∈ gG := (List.mem_append_right _ (List.mem_append_left _ (List.mem_of_getElem? (i := 16) rfl)))
theorem mG_77 : (.fieldLink "WatchList" 117 "WatchList" "lostSoFar" "I" : Cond) ∈ gG := (List.mem_append_right _ (List.mem_append_left _ (List.mem_of_getElem? (i := 17) rfl)))
theorem mG_78 : (.fieldLink "WatchList" 108 "WatchList" "workedNumber" "I" : Cond) ∈ gG := (List.mem_append_right _ (List.mem_append_left _ (List.mem_of_getElem? (i := 18) rfl)))
theorem mG_79 : (.fieldLink "WatchList" 32 "WatchList" "text" "[B" : Cond) ∈ gG := (List.mem_append_right _ (List.mem_append_left _ (List.mem_of_getElem? (i := 19) rfl)))
theorem mG_80 : (.fieldLink "WatchList" 123 "WatchList" "textSize" "I" : Cond) ∈ gG := (List.mem_append_right _ (List.mem_append_left _ (List.mem_of_getElem? (i := 20) rfl)))
theorem mG_81 : (.methodLink "WatchListLaw" 13 yX3_set : Cond) ∈ gG := (List.mem_append_right _ (List.mem_append_left _ (List.mem_of_getElem? (i := 21) rfl)))
theorem mG_82 : (.instanceMethod yX3_set : Cond) ∈ gG := (List.mem_append_right _ (List.mem_append_left _ (List.mem_of_getElem? (i := 22) rfl)))
theorem mG_83 : (.selects "WatchList" yX3_set yX3_set : Cond) ∈ gG := (List.mem_append_right _ (List.mem_append_left _ (List.mem_of_getElem? (i := 23) rfl)))
theorem mG_84 : (.code yX3_set prog_1_method_2_code 3 (some .boolean) : Cond) ∈ gG := (List.mem_append_right _ (List.mem_append_left _ (List.mem_of_getElem? (i := 24) rfl)))
theorem mG_85 : (.methodLink "WatchList" 38 yX3_isParameter : Cond) ∈ gG := (List.mem_append_right _ (List.mem_append_left _ (List.mem_of_getElem? (i := 25) rfl)))
theorem mG_86 : (.static yX3_isParameter : Cond) ∈ gG := (List.mem_append_right _ (List.mem_append_left _ (List.mem_of_getElem? (i := 26) rfl)))
theorem mG_87 : (.code yX3_isParameter prog_1_method_20_code 1 (some .boolean) : Cond) ∈ gG := (List.mem_append_right _ (List.mem_append_left _ (List.mem_of_getElem? (i := 27) rfl)))
theorem mG_88 : (.methodLink "WatchListLaw" 18 yX3_add : Cond) ∈ gG := (List.mem_append_right _ (List.mem_append_left _ (List.mem_of_getElem? (i := 28) rfl)))
theorem mG_89 : (.instanceMethod yX3_add : Cond) ∈ gG := (List.mem_append_right _ (List.mem_append_left _ (List.mem_of_getElem? (i := 29) rfl)))
theorem mG_90 : (.selects "WatchList" yX3_add yX3_add : Cond) ∈ gG := (List.mem_append_right _ (List.mem_append_left _ (List.mem_of_getElem? (i := 30) rfl)))
theorem mG_91 : (.code yX3_add prog_1_method_3_code 10 (some .int) : Cond) ∈ gG := (List.mem_append_right _ (List.mem_append_left _ (List.mem_of_getElem? (i := 31) rfl)))
theorem mG_92 : (.methodLink "WatchList" 42 yX3_isId : Cond) ∈ gG := (List.mem_append_right _ (List.mem_append_left _ (List.mem_of_getElem? (i := 32) rfl)))
theorem mG_93 : (.static yX3_isId : Cond) ∈ gG := (List.mem_append_right _ (List.mem_append_left _ (List.mem_of_getElem? (i := 33) rfl)))
theorem mG_94 : (.code yX3_isId prog_1_method_21_code 1 (some .boolean) : Cond) ∈ gG := (List.mem_append_right _ (List.mem_append_left _ (List.mem_of_getElem? (i := 34) rfl)))
theorem mG_95 : (.methodLink "WatchList" 45 yX3_isEvent : Cond) ∈ gG := (List.mem_append_right _ (List.mem_append_left _ (List.mem_of_getElem? (i := 35) rfl)))
theorem mG_96 : (.static yX3_isEvent : Cond) ∈ gG := (List.mem_append_right _ (List.mem_append_left _ (List.mem_of_getElem? (i := 36) rfl)))
theorem mG_97 : (.code yX3_isEvent prog_1_method_22_code 1 (some .boolean) : Cond) ∈ gG := (List.mem_append_right _ (List.mem_append_left _ (List.mem_of_getElem? (i := 37) rfl)))
theorem mG_98 : (.methodLink "WatchList" 48 yX3_placeOf : Cond) ∈ gG := (List.mem_append_right _ (List.mem_append_left _ (List.mem_of_getElem? (i := 38) rfl)))
theorem mG_99 : (.instanceMethod yX3_placeOf : Cond) ∈ gG := (List.mem_append_right _ (List.mem_append_left _ (List.mem_of_getElem? (i := 39) rfl)))
theorem mG_100 : (.code yX3_placeOf prog_1_method_24_code 3 (some .int) : Cond) ∈ gG := (List.mem_append_right _ (List.mem_append_left _ (List.mem_of_getElem? (i := 40) rfl)))
theorem mG_101 : (.methodLink "WatchList" 56 yX3_openPlaceFor : Cond) ∈ gG := (List.mem_append_right _ (List.mem_append_left _ (List.mem_of_getElem? (i := 41) rfl)))
theorem mG_102 : (.instanceMethod yX3_openPlaceFor : Cond) ∈ gG := (List.mem_append_right _ (List.mem_append_left _ (List.mem_of_getElem? (i := 42) rfl)))
theorem mG_103 : (.code yX3_openPlaceFor prog_1_method_25_code 4 (Option.some (.object "WatchList$Limit")) : Cond) ∈ gG := (List.mem_append_right _ (List.mem_append_left _ (List.mem_of_getElem? (i := 43) rfl)))
theorem mG_104 : (.instanceMethod yX1_begin : Cond) ∈ gG := (List.mem_append_right _ (List.mem_append_left _ (List.mem_of_getElem? (i := 44) rfl)))
theorem mG_105 : (.code yX1_begin prog_3_method_2_code 8 none : Cond) ∈ gG := (List.mem_append_right _ (List.mem_append_left _ (List.mem_of_getElem? (i := 45) rfl)))
theorem mG_106 : (.methodLink "WatchList$Limit" 34 yX1_turn : Cond) ∈ gG := (List.mem_append_right _ (List.mem_append_left _ (List.mem_of_getElem? (i := 46) rfl)))
theorem mG_107 : (.instanceMethod yX1_turn : Cond) ∈ gG := (List.mem_append_right _ (List.mem_append_left _ (List.mem_of_getElem? (i := 47) rfl)))
theorem mG_108 : (.code yX1_turn prog_3_method_3_code 2 none : Cond) ∈ gG := (List.mem_append_right _ (List.mem_append_left _ (List.mem_of_getElem? (i := 48) rfl)))
theorem mG_109 : (.methodLink "WatchListLaw" 23 yX3_remove : Cond) ∈ gG := (List.mem_append_right _ (List.mem_append_left _ (List.mem_of_getElem? (i := 49) rfl)))
theorem mG_110 : (.instanceMethod yX3_remove : Cond) ∈ gG := (List.mem_append_right _ (List.mem_append_left _ (List.mem_of_getElem? (i := 50) rfl)))
theorem mG_111 : (.selects "WatchList" yX3_remove yX3_remove : Cond) ∈ gG := (List.mem_append_right _ (List.mem_append_left _ (List.mem_of_getElem? (i := 51) rfl)))
theorem mG_112 : (.code yX3_remove prog_1_method_4_code 3 (some .int) : Cond) ∈ gG := (List.mem_append_right _ (List.mem_append_left _ (List.mem_of_getElem? (i := 52) rfl)))
theorem mG_113 : (.methodLink "WatchList" 68 yX3_closePlace : Cond) ∈ gG := (List.mem_append_right _ (List.mem_append_left _ (List.mem_of_getElem? (i := 53) rfl)))
theorem mG_114 : (.instanceMethod yX3_closePlace : Cond) ∈ gG := (List.mem_append_right _ (List.mem_append_left _ (List.mem_of_getElem? (i := 54) rfl)))
theorem mG_115 : (.code yX3_closePlace prog_1_method_26_code 4 none : Cond) ∈ gG := (List.mem_append_right _ (List.mem_append_left _ (List.mem_of_getElem? (i := 55) rfl)))
theorem mG_116 : (.methodLink "WatchListLaw" 28 yX3_enable : Cond) ∈ gG := (List.mem_append_right _ (List.mem_append_left _ (List.mem_of_getElem? (i := 56) rfl)))
theorem mG_117 : (.instanceMethod yX3_enable : Cond) ∈ gG := (List.mem_append_right _ (List.mem_append_left _ (List.mem_of_getElem? (i := 57) rfl)))
theorem mG_118 : (.selects "WatchList" yX3_enable yX3_enable : Cond) ∈ gG := (List.mem_append_right _ (List.mem_append_left _ (List.mem_of_getElem? (i := 58) rfl)))
theorem mG_119 : (.code yX3_enable prog_1_method_5_code 4 (some .int) : Cond) ∈ gG := (List.mem_append_right _ (List.mem_append_left _ (List.mem_of_getElem? (i := 59) rfl)))
theorem mG_120 : (.methodLink "WatchListLaw" 33 yX3_watch : Cond) ∈ gG := (List.mem_append_right _ (List.mem_append_right _ (List.mem_append_left _ (List.mem_of_getElem? (i := 0) rfl))))
theorem mG_121 : (.instanceMethod yX3_watch : Cond) ∈ gG := (List.mem_append_right _ (List.mem_append_right _ (List.mem_append_left _ (List.mem_of_getElem? (i := 1) rfl))))
theorem mG_122 : (.selects "WatchList" yX3_watch yX3_watch : Cond) ∈ gG := (List.mem_append_right _ (List.mem_append_right _ (List.mem_append_left _ (List.mem_of_getElem? (i := 2) rfl))))
theorem mG_123 : (.code yX3_watch prog_1_method_6_code 5 (some .int) : Cond) ∈ gG := (List.mem_append_right _ (List.mem_append_right _ (List.mem_append_left _ (List.mem_of_getElem? (i := 3) rfl))))
theorem mG_124 : (.instanceMethod yX1_breaksAt : Cond) ∈ gG := (List.mem_append_right _ (List.mem_append_right _ (List.mem_append_left _ (List.mem_of_getElem? (i := 4) rfl))))
theorem mG_125 : (.code yX1_breaksAt prog_3_method_4_code 2 (some .boolean) : Cond) ∈ gG := (List.mem_append_right _ (List.mem_append_right _ (List.mem_append_left _ (List.mem_of_getElem? (i := 5) rfl))))
theorem mG_126 : (.methodLink "WatchList" 91 yX3_waitOrLose : Cond) ∈ gG := (List.mem_append_right _ (List.mem_append_right _ (List.mem_append_left _ (List.mem_of_getElem? (i := 6) rfl))))
theorem mG_127 : (.instanceMethod yX3_waitOrLose : Cond) ∈ gG := (List.mem_append_right _ (List.mem_append_right _ (List.mem_append_left _ (List.mem_of_getElem? (i := 7) rfl))))
theorem mG_128 : (.code yX3_waitOrLose prog_1_method_27_code 3 (some .boolean) : Cond) ∈ gG := (List.mem_append_right _ (List.mem_append_right _ (List.mem_append_left _ (List.mem_of_getElem? (i := 8) rfl))))
theorem mG_129 : (.instanceMethod yX2_append : Cond) ∈ gG := (List.mem_append_right _ (List.mem_append_right _ (List.mem_append_left _ (List.mem_of_getElem? (i := 9) rfl))))
theorem mG_130 : (.code yX2_append prog_4_method_2_code 4 none : Cond) ∈ gG := (List.mem_append_right _ (List.mem_append_right _ (List.mem_append_left _ (List.mem_of_getElem? (i := 10) rfl))))
theorem mG_131 : (.methodLink "WatchListLaw" 38 yX3_linked : Cond) ∈ gG := (List.mem_append_right _ (List.mem_append_right _ (List.mem_append_left _ (List.mem_of_getElem? (i := 11) rfl))))
theorem mG_132 : (.instanceMethod yX3_linked : Cond) ∈ gG := (List.mem_append_right _ (List.mem_append_right _ (List.mem_append_left _ (List.mem_of_getElem? (i := 12) rfl))))
theorem mG_133 : (.selects "WatchList" yX3_linked yX3_linked : Cond) ∈ gG := (List.mem_append_right _ (List.mem_append_right _ (List.mem_append_left _ (List.mem_of_getElem? (i := 13) rfl))))
theorem mG_134 : (.code yX3_linked prog_1_method_7_code 1 (some .boolean) : Cond) ∈ gG := (List.mem_append_right _ (List.mem_append_right _ (List.mem_append_left _ (List.mem_of_getElem? (i := 14) rfl))))
theorem mG_135 : (.methodLink "WatchListLaw" 43 yX3_raise : Cond) ∈ gG := (List.mem_append_right _ (List.mem_append_right _ (List.mem_append_left _ (List.mem_of_getElem? (i := 15) rfl))))
theorem mG_136 : (.instanceMethod yX3_raise : Cond) ∈ gG := (List.mem_append_right _ (List.mem_append_right _ (List.mem_append_left _ (List.mem_of_getElem? (i := 16) rfl))))
theorem mG_137 : (.selects "WatchList" yX3_raise yX3_raise : Cond) ∈ gG := (List.mem_append_right _ (List.mem_append_right _ (List.mem_append_left _ (List.mem_of_getElem? (i := 17) rfl))))
theorem mG_138 : (.code yX3_raise prog_1_method_8_code 3 (some .boolean) : Cond) ∈ gG := (List.mem_append_right _ (List.mem_append_right _ (List.mem_append_left _ (List.mem_of_getElem? (i := 18) rfl))))
theorem mG_139 : (.methodLink "WatchListLaw" 47 yX3_work : Cond) ∈ gG := (List.mem_append_right _ (List.mem_append_right _ (List.mem_append_left _ (List.mem_of_getElem? (i := 19) rfl))))
theorem mG_140 : (.instanceMethod yX3_work : Cond) ∈ gG := (List.mem_append_right _ (List.mem_append_right _ (List.mem_append_left _ (List.mem_of_getElem? (i := 20) rfl))))
theorem mG_141 : (.selects "WatchList" yX3_work yX3_work : Cond) ∈ gG := (List.mem_append_right _ (List.mem_append_right _ (List.mem_append_left _ (List.mem_of_getElem? (i := 21) rfl))))
theorem mG_142 : (.code yX3_work prog_1_method_9_code 2 (some .int) : Cond) ∈ gG := (List.mem_append_right _ (List.mem_append_right _ (List.mem_append_left _ (List.mem_of_getElem? (i := 22) rfl))))
theorem mG_143 : (.instanceMethod yX2_firstEvent : Cond) ∈ gG := (List.mem_append_right _ (List.mem_append_right _ (List.mem_append_left _ (List.mem_of_getElem? (i := 23) rfl))))
theorem mG_144 : (.code yX2_firstEvent prog_4_method_3_code 1 (some .int) : Cond) ∈ gG := (List.mem_append_right _ (List.mem_append_right _ (List.mem_append_left _ (List.mem_of_getElem? (i := 24) rfl))))
theorem mG_145 : (.instanceMethod yX2_firstNumber : Cond) ∈ gG := (List.mem_append_right _ (List.mem_append_right _ (List.mem_append_left _ (List.mem_of_getElem? (i := 25) rfl))))
theorem mG_146 : (.code yX2_firstNumber prog_4_method_4_code 1 (some .int) : Cond) ∈ gG := (List.mem_append_right _ (List.mem_append_right _ (List.mem_append_left _ (List.mem_of_getElem? (i := 26) rfl))))
theorem mG_147 : (.instanceMethod yX2_takeFirst : Cond) ∈ gG := (List.mem_append_right _ (List.mem_append_right _ (List.mem_append_left _ (List.mem_of_getElem? (i := 27) rfl))))
theorem mG_148 : (.code yX2_takeFirst prog_4_method_5_code 1 none : Cond) ∈ gG := (List.mem_append_right _ (List.mem_append_right _ (List.mem_append_left _ (List.mem_of_getElem? (i := 28) rfl))))
theorem mG_149 : (.methodLink "WatchListLaw" 51 yX3_lose : Cond) ∈ gG := (List.mem_append_right _ (List.mem_append_right _ (List.mem_append_left _ (List.mem_of_getElem? (i := 29) rfl))))
theorem mG_150 : (.instanceMethod yX3_lose : Cond) ∈ gG := (List.mem_append_right _ (List.mem_append_right _ (List.mem_append_left _ (List.mem_of_getElem? (i := 30) rfl))))
theorem mG_151 : (.selects "WatchList" yX3_lose yX3_lose : Cond) ∈ gG := (List.mem_append_right _ (List.mem_append_right _ (List.mem_append_left _ (List.mem_of_getElem? (i := 31) rfl))))
theorem mG_152 : (.code yX3_lose prog_1_method_10_code 2 (some .int) : Cond) ∈ gG := (List.mem_append_right _ (List.mem_append_right _ (List.mem_append_left _ (List.mem_of_getElem? (i := 32) rfl))))
theorem mG_153 : (.instanceMethod yX2_empty : Cond) ∈ gG := (List.mem_append_right _ (List.mem_append_right _ (List.mem_append_left _ (List.mem_of_getElem? (i := 33) rfl))))
theorem mG_154 : (.code yX2_empty prog_4_method_6_code 1 none : Cond) ∈ gG := (List.mem_append_right _ (List.mem_append_right _ (List.mem_append_left _ (List.mem_of_getElem? (i := 34) rfl))))
theorem mG_155 : (.methodLink "WatchListLaw" 55 yX3_tell : Cond) ∈ gG := (List.mem_append_right _ (List.mem_append_right _ (List.mem_append_left _ (List.mem_of_getElem? (i := 35) rfl))))
theorem mG_156 : (.instanceMethod yX3_tell : Cond) ∈ gG := (List.mem_append_right _ (List.mem_append_right _ (List.mem_append_left _ (List.mem_of_getElem? (i := 36) rfl))))
theorem mG_157 : (.selects "WatchList" yX3_tell yX3_tell : Cond) ∈ gG := (List.mem_append_right _ (List.mem_append_right _ (List.mem_append_left _ (List.mem_of_getElem? (i := 37) rfl))))
theorem mG_158 : (.code yX3_tell prog_1_method_11_code 3 (some .int) : Cond) ∈ gG := (List.mem_append_right _ (List.mem_append_right _ (List.mem_append_left _ (List.mem_of_getElem? (i := 38) rfl))))
theorem mG_159 : (.methodLink "WatchListLaw" 59 yX3_put : Cond) ∈ gG := (List.mem_append_right _ (List.mem_append_right _ (List.mem_append_left _ (List.mem_of_getElem? (i := 39) rfl))))
theorem mG_160 : (.instanceMethod yX3_put : Cond) ∈ gG := (List.mem_append_right _ (List.mem_append_right _ (List.mem_append_left _ (List.mem_of_getElem? (i := 40) rfl))))
theorem mG_161 : (.selects "WatchList" yX3_put yX3_put : Cond) ∈ gG := (List.mem_append_right _ (List.mem_append_right _ (List.mem_append_left _ (List.mem_of_getElem? (i := 41) rfl))))
theorem mG_162 : (.code yX3_put prog_1_method_12_code 2 (some .int) : Cond) ∈ gG := (List.mem_append_right _ (List.mem_append_right _ (List.mem_append_left _ (List.mem_of_getElem? (i := 42) rfl))))
theorem mG_163 : (.methodLink "WatchListLaw" 63 yX3_act : Cond) ∈ gG := (List.mem_append_right _ (List.mem_append_right _ (List.mem_append_left _ (List.mem_of_getElem? (i := 43) rfl))))
theorem mG_164 : (.instanceMethod yX3_act : Cond) ∈ gG := (List.mem_append_right _ (List.mem_append_right _ (List.mem_append_left _ (List.mem_of_getElem? (i := 44) rfl))))
theorem mG_165 : (.selects "WatchList" yX3_act yX3_act : Cond) ∈ gG := (List.mem_append_right _ (List.mem_append_right _ (List.mem_append_left _ (List.mem_of_getElem? (i := 45) rfl))))
theorem mG_166 : (.code yX3_act prog_1_method_13_code 3 (some .int) : Cond) ∈ gG := (List.mem_append_right _ (List.mem_append_right _ (List.mem_append_left _ (List.mem_of_getElem? (i := 46) rfl))))
theorem mG_167 : (.instanceMethod yX0_hasAction : Cond) ∈ gG := (List.mem_append_right _ (List.mem_append_right _ (List.mem_append_left _ (List.mem_of_getElem? (i := 47) rfl))))
theorem mG_168 : (.code yX0_hasAction prog_2_method_2_code 1 (some .boolean) : Cond) ∈ gG := (List.mem_append_right _ (List.mem_append_right _ (List.mem_append_left _ (List.mem_of_getElem? (i := 48) rfl))))
theorem mG_169 : (.instanceMethod yX0_takeAction : Cond) ∈ gG := (List.mem_append_right _ (List.mem_append_right _ (List.mem_append_left _ (List.mem_of_getElem? (i := 49) rfl))))
theorem mG_170 : (.code yX0_takeAction prog_2_method_3_code 3 none : Cond) ∈ gG := (List.mem_append_right _ (List.mem_append_right _ (List.mem_append_left _ (List.mem_of_getElem? (i := 50) rfl))))
theorem mG_171 : (.methodLink "WatchList$Event" 23 arraycopyName : Cond) ∈ gG := (List.mem_append_right _ (List.mem_append_right _ (List.mem_append_left _ (List.mem_of_getElem? (i := 51) rfl))))
theorem mG_172 : (.static arraycopyName : Cond) ∈ gG := (List.mem_append_right _ (List.mem_append_right _ (List.mem_append_left _ (List.mem_of_getElem? (i := 52) rfl))))
theorem mG_173 : (.native arraycopyName : Cond) ∈ gG := (List.mem_append_right _ (List.mem_append_right _ (List.mem_append_left _ (List.mem_of_getElem? (i := 53) rfl))))
theorem mG_174 : (.methodLink "WatchListLaw" 67 yX3_drop : Cond) ∈ gG := (List.mem_append_right _ (List.mem_append_right _ (List.mem_append_left _ (List.mem_of_getElem? (i := 54) rfl))))
theorem mG_175 : (.instanceMethod yX3_drop : Cond) ∈ gG := (List.mem_append_right _ (List.mem_append_right _ (List.mem_append_left _ (List.mem_of_getElem? (i := 55) rfl))))
theorem mG_176 : (.selects "WatchList" yX3_drop yX3_drop : Cond) ∈ gG := (List.mem_append_right _ (List.mem_append_right _ (List.mem_append_left _ (List.mem_of_getElem? (i := 56) rfl))))
theorem mG_177 : (.code yX3_drop prog_1_method_14_code 3 (some .int) : Cond) ∈ gG := (List.mem_append_right _ (List.mem_append_right _ (List.mem_append_left _ (List.mem_of_getElem? (i := 57) rfl))))
theorem mG_178 : (.methodLink "WatchList" 134 yX3_actionFailure : Cond) ∈ gG := (List.mem_append_right _ (List.mem_append_right _ (List.mem_append_left _ (List.mem_of_getElem? (i := 58) rfl))))
theorem mG_179 : (.instanceMethod yX3_actionFailure : Cond) ∈ gG := (List.mem_append_right _ (List.mem_append_right _ (List.mem_append_left _ (List.mem_of_getElem? (i := 59) rfl))))
theorem mG_180 : (.code yX3_actionFailure prog_1_method_28_code 2 (some .int) : Cond) ∈ gG := (List.mem_append_right _ (List.mem_append_right _ (List.mem_append_right _ (List.mem_append_left _ (List.mem_of_getElem? (i := 0) rfl)))))
theorem mG_181 : (.methodLink "WatchListLaw" 71 yX3_arm : Cond) ∈ gG := (List.mem_append_right _ (List.mem_append_right _ (List.mem_append_right _ (List.mem_append_left _ (List.mem_of_getElem? (i := 1) rfl)))))
theorem mG_182 : (.instanceMethod yX3_arm : Cond) ∈ gG := (List.mem_append_right _ (List.mem_append_right _ (List.mem_append_right _ (List.mem_append_left _ (List.mem_of_getElem? (i := 2) rfl)))))
theorem mG_183 : (.selects "WatchList" yX3_arm yX3_arm : Cond) ∈ gG := (List.mem_append_right _ (List.mem_append_right _ (List.mem_append_right _ (List.mem_append_left _ (List.mem_of_getElem? (i := 3) rfl)))))
theorem mG_184 : (.code yX3_arm prog_1_method_15_code 4 (some .int) : Cond) ∈ gG := (List.mem_append_right _ (List.mem_append_right _ (List.mem_append_right _ (List.mem_append_left _ (List.mem_of_getElem? (i := 4) rfl)))))
theorem mG_185 : (.methodLink "WatchListLaw" 75 yX3_limit : Cond) ∈ gG := (List.mem_append_right _ (List.mem_append_right _ (List.mem_append_right _ (List.mem_append_left _ (List.mem_of_getElem? (i := 5) rfl)))))
theorem mG_186 : (.instanceMethod yX3_limit : Cond) ∈ gG := (List.mem_append_right _ (List.mem_append_right _ (List.mem_append_right _ (List.mem_append_left _ (List.mem_of_getElem? (i := 6) rfl)))))
theorem mG_187 : (.selects "WatchList" yX3_limit yX3_limit : Cond) ∈ gG := (List.mem_append_right _ (List.mem_append_right _ (List.mem_append_right _ (List.mem_append_left _ (List.mem_of_getElem? (i := 7) rfl)))))
theorem mG_188 : (.code yX3_limit prog_1_method_16_code 4 (some .int) : Cond) ∈ gG := (List.mem_append_right _ (List.mem_append_right _ (List.mem_append_right _ (List.mem_append_left _ (List.mem_of_getElem? (i := 8) rfl)))))
theorem mG_189 : (.instanceMethod yX1_tellOf : Cond) ∈ gG := (List.mem_append_right _ (List.mem_append_right _ (List.mem_append_right _ (List.mem_append_left _ (List.mem_of_getElem? (i := 9) rfl)))))
theorem mG_190 : (.code yX1_tellOf prog_3_method_5_code 2 (some .int) : Cond) ∈ gG := (List.mem_append_right _ (List.mem_append_right _ (List.mem_append_right _ (List.mem_append_left _ (List.mem_of_getElem? (i := 10) rfl)))))
theorem mG_191 : (.static yX3_oneIf : Cond) ∈ gG := (List.mem_append_right _ (List.mem_append_right _ (List.mem_append_right _ (List.mem_append_left _ (List.mem_of_getElem? (i := 11) rfl)))))
theorem mG_192 : (.code yX3_oneIf prog_1_method_23_code 1 (some .int) : Cond) ∈ gG := (List.mem_append_right _ (List.mem_append_right _ (List.mem_append_right _ (List.mem_append_left _ (List.mem_of_getElem? (i := 12) rfl)))))
theorem mG_193 : (.methodLink "WatchListLaw" 80 yX3_event : Cond) ∈ gG := (List.mem_append_right _ (List.mem_append_right _ (List.mem_append_right _ (List.mem_append_left _ (List.mem_of_getElem? (i := 13) rfl)))))
theorem mG_194 : (.instanceMethod yX3_event : Cond) ∈ gG := (List.mem_append_right _ (List.mem_append_right _ (List.mem_append_right _ (List.mem_append_left _ (List.mem_of_getElem? (i := 14) rfl)))))
theorem mG_195 : (.selects "WatchList" yX3_event yX3_event : Cond) ∈ gG := (List.mem_append_right _ (List.mem_append_right _ (List.mem_append_right _ (List.mem_append_left _ (List.mem_of_getElem? (i := 15) rfl)))))
theorem mG_196 : (.code yX3_event prog_1_method_17_code 3 (some .int) : Cond) ∈ gG := (List.mem_append_right _ (List.mem_append_right _ (List.mem_append_right _ (List.mem_append_left _ (List.mem_of_getElem? (i := 16) rfl)))))
theorem mG_197 : (.instanceMethod yX0_tellOf : Cond) ∈ gG := (List.mem_append_right _ (List.mem_append_right _ (List.mem_append_right _ (List.mem_append_left _ (List.mem_of_getElem? (i := 17) rfl)))))
theorem mG_198 : (.code yX0_tellOf prog_2_method_5_code 2 (some .int) : Cond) ∈ gG := (List.mem_append_right _ (List.mem_append_right _ (List.mem_append_right _ (List.mem_append_left _ (List.mem_of_getElem? (i := 18) rfl)))))
theorem mG_199 : (.methodLink "WatchListLaw" 84 yX3_actionAt : Cond) ∈ gG := (List.mem_append_right _ (List.mem_append_right _ (List.mem_append_right _ (List.mem_append_left _ (List.mem_of_getElem? (i := 19) rfl)))))
theorem mG_200 : (.instanceMethod yX3_actionAt : Cond) ∈ gG := (List.mem_append_right _ (List.mem_append_right _ (List.mem_append_right _ (List.mem_append_left _ (List.mem_of_getElem? (i := 20) rfl)))))
theorem mG_201 : (.selects "WatchList" yX3_actionAt yX3_actionAt : Cond) ∈ gG := (List.mem_append_right _ (List.mem_append_right _ (List.mem_append_right _ (List.mem_append_left _ (List.mem_of_getElem? (i := 21) rfl)))))
theorem mG_202 : (.code yX3_actionAt prog_1_method_18_code 3 (some .int) : Cond) ∈ gG := (List.mem_append_right _ (List.mem_append_right _ (List.mem_append_right _ (List.mem_append_left _ (List.mem_of_getElem? (i := 22) rfl)))))
theorem mG_203 : (.instanceMethod yX0_byteAt : Cond) ∈ gG := (List.mem_append_right _ (List.mem_append_right _ (List.mem_append_right _ (List.mem_append_left _ (List.mem_of_getElem? (i := 23) rfl)))))
theorem mG_204 : (.code yX0_byteAt prog_2_method_4_code 2 (some .int) : Cond) ∈ gG := (List.mem_append_right _ (List.mem_append_right _ (List.mem_append_right _ (List.mem_append_left _ (List.mem_of_getElem? (i := 24) rfl)))))
theorem mG_205 : (.methodLink "WatchListLaw" 88 yX3_count : Cond) ∈ gG := (List.mem_append_right _ (List.mem_append_right _ (List.mem_append_right _ (List.mem_append_left _ (List.mem_of_getElem? (i := 25) rfl)))))
theorem mG_206 : (.instanceMethod yX3_count : Cond) ∈ gG := (List.mem_append_right _ (List.mem_append_right _ (List.mem_append_right _ (List.mem_append_left _ (List.mem_of_getElem? (i := 26) rfl)))))
theorem mG_207 : (.selects "WatchList" yX3_count yX3_count : Cond) ∈ gG := (List.mem_append_right _ (List.mem_append_right _ (List.mem_append_right _ (List.mem_append_left _ (List.mem_of_getElem? (i := 27) rfl)))))
theorem mG_208 : (.code yX3_count prog_1_method_19_code 2 (some .int) : Cond) ∈ gG := (List.mem_append_right _ (List.mem_append_right _ (List.mem_append_right _ (List.mem_append_left _ (List.mem_of_getElem? (i := 28) rfl)))))
theorem mG_209 : (.classLink "WatchListLaw" 10 "WatchListModel" : Cond) ∈ gG := (List.mem_append_right _ (List.mem_append_right _ (List.mem_append_right _ (List.mem_append_left _ (List.mem_of_getElem? (i := 29) rfl)))))
theorem mG_210 : (.instantiable "WatchListModel" 24 : Cond) ∈ gG := (List.mem_append_right _ (List.mem_append_right _ (List.mem_append_right _ (List.mem_append_left _ (List.mem_of_getElem? (i := 30) rfl)))))
theorem mG_211 : (.methodLink "WatchListLaw" 12 yX4_init : Cond) ∈ gG := (List.mem_append_right _ (List.mem_append_right _ (List.mem_append_right _ (List.mem_append_left _ (List.mem_of_getElem? (i := 31) rfl)))))
theorem mG_212 : (.instanceMethod yX4_init : Cond) ∈ gG := (List.mem_append_right _ (List.mem_append_right _ (List.mem_append_right _ (List.mem_append_left _ (List.mem_of_getElem? (i := 32) rfl)))))
theorem mG_213 : (.code yX4_init prog_6_method_1_code 1 none : Cond) ∈ gG := (List.mem_append_right _ (List.mem_append_right _ (List.mem_append_right _ (List.mem_append_left _ (List.mem_of_getElem? (i := 33) rfl)))))
theorem mG_214 : (.methodLink "WatchListModel" 1 objectInit : Cond) ∈ gG := (List.mem_append_right _ (List.mem_append_right _ (List.mem_append_right _ (List.mem_append_left _ (List.mem_of_getElem? (i := 34) rfl)))))
theorem mG_215 : (.fieldLink "WatchListModel" 63 "WatchListModel" "thrown" "I" : Cond) ∈ gG := (List.mem_append_right _ (List.mem_append_right _ (List.mem_append_right _ (List.mem_append_left _ (List.mem_of_getElem? (i := 35) rfl)))))
theorem mG_216 : (.fieldLink "WatchListModel" 7 "WatchListModel" "parameters" "[I" : Cond) ∈ gG := (List.mem_append_right _ (List.mem_append_right _ (List.mem_append_right _ (List.mem_append_left _ (List.mem_of_getElem? (i := 36) rfl)))))
theorem mG_217 : (.fieldLink "WatchListModel" 13 "WatchListModel" "there" "[Z" : Cond) ∈ gG := (List.mem_append_right _ (List.mem_append_right _ (List.mem_append_right _ (List.mem_append_left _ (List.mem_of_getElem? (i := 37) rfl)))))
theorem mG_218 : (.fieldLink "WatchListModel" 17 "WatchListModel" "on" "[Z" : Cond) ∈ gG := (List.mem_append_right _ (List.mem_append_right _ (List.mem_append_right _ (List.mem_append_left _ (List.mem_of_getElem? (i := 38) rfl)))))
theorem mG_219 : (.fieldLink "WatchListModel" 20 "WatchListModel" "links" "[Z" : Cond) ∈ gG := (List.mem_append_right _ (List.mem_append_right _ (List.mem_append_right _ (List.mem_append_left _ (List.mem_of_getElem? (i := 39) rfl)))))
theorem mG_220 : (.fieldLink "WatchListModel" 23 "WatchListModel" "of" "[I" : Cond) ∈ gG := (List.mem_append_right _ (List.mem_append_right _ (List.mem_append_right _ (List.mem_append_left _ (List.mem_of_getElem? (i := 40) rfl)))))
theorem mG_221 : (.fieldLink "WatchListModel" 26 "WatchListModel" "times" "[I" : Cond) ∈ gG := (List.mem_append_right _ (List.mem_append_right _ (List.mem_append_right _ (List.mem_append_left _ (List.mem_of_getElem? (i := 41) rfl)))))
theorem mG_222 : (.fieldLink "WatchListModel" 29 "WatchListModel" "low" "[I" : Cond) ∈ gG := (List.mem_append_right _ (List.mem_append_right _ (List.mem_append_right _ (List.mem_append_left _ (List.mem_of_getElem? (i := 42) rfl)))))
theorem mG_223 : (.fieldLink "WatchListModel" 32 "WatchListModel" "high" "[I" : Cond) ∈ gG := (List.mem_append_right _ (List.mem_append_right _ (List.mem_append_right _ (List.mem_append_left _ (List.mem_of_getElem? (i := 43) rfl)))))
theorem mG_224 : (.fieldLink "WatchListModel" 35 "WatchListModel" "raises" "[I" : Cond) ∈ gG := (List.mem_append_right _ (List.mem_append_right _ (List.mem_append_right _ (List.mem_append_left _ (List.mem_of_getElem? (i := 44) rfl)))))
theorem mG_225 : (.fieldLink "WatchListModel" 38 "WatchListModel" "counts" "[I" : Cond) ∈ gG := (List.mem_append_right _ (List.mem_append_right _ (List.mem_append_right _ (List.mem_append_left _ (List.mem_of_getElem? (i := 45) rfl)))))
theorem mG_226 : (.fieldLink "WatchListModel" 93 "WatchListModel" "broken" "I" : Cond) ∈ gG := (List.mem_append_right _ (List.mem_append_right _ (List.mem_append_right _ (List.mem_append_left _ (List.mem_of_getElem? (i := 46) rfl)))))
theorem mG_227 : (.fieldLink "WatchListModel" 85 "WatchListModel" "linked" "Z" : Cond) ∈ gG := (List.mem_append_right _ (List.mem_append_right _ (List.mem_append_right _ (List.mem_append_left _ (List.mem_of_getElem? (i := 47) rfl)))))
theorem mG_228 : (.fieldLink "WatchListModel" 79 "WatchListModel" "waiting" "I" : Cond) ∈ gG := (List.mem_append_right _ (List.mem_append_right _ (List.mem_append_right _ (List.mem_append_left _ (List.mem_of_getElem? (i := 48) rfl)))))
theorem mG_229 : (.fieldLink "WatchListModel" 41 "WatchListModel" "events" "[I" : Cond) ∈ gG := (List.mem_append_right _ (List.mem_append_right _ (List.mem_append_right _ (List.mem_append_left _ (List.mem_of_getElem? (i := 49) rfl)))))
theorem mG_230 : (.fieldLink "WatchListModel" 44 "WatchListModel" "numbers" "[I" : Cond) ∈ gG := (List.mem_append_right _ (List.mem_append_right _ (List.mem_append_right _ (List.mem_append_left _ (List.mem_of_getElem? (i := 50) rfl)))))
theorem mG_231 : (.fieldLink "WatchListModel" 82 "WatchListModel" "lost" "I" : Cond) ∈ gG := (List.mem_append_right _ (List.mem_append_right _ (List.mem_append_right _ (List.mem_append_left _ (List.mem_of_getElem? (i := 51) rfl)))))
theorem mG_232 : (.fieldLink "WatchListModel" 99 "WatchListModel" "worked" "I" : Cond) ∈ gG := (List.mem_append_right _ (List.mem_append_right _ (List.mem_append_right _ (List.mem_append_left _ (List.mem_of_getElem? (i := 52) rfl)))))
theorem mG_233 : (.fieldLink "WatchListModel" 47 "WatchListModel" "silent" "[Z" : Cond) ∈ gG := (List.mem_append_right _ (List.mem_append_right _ (List.mem_append_right _ (List.mem_append_left _ (List.mem_of_getElem? (i := 53) rfl)))))
theorem mG_234 : (.fieldLink "WatchListModel" 50 "WatchListModel" "sizes" "[I" : Cond) ∈ gG := (List.mem_append_right _ (List.mem_append_right _ (List.mem_append_right _ (List.mem_append_left _ (List.mem_of_getElem? (i := 54) rfl)))))
theorem mG_235 : (.fieldLink "WatchListModel" 53 "WatchListModel" "armed" "[Z" : Cond) ∈ gG := (List.mem_append_right _ (List.mem_append_right _ (List.mem_append_right _ (List.mem_append_left _ (List.mem_of_getElem? (i := 55) rfl)))))
theorem mG_236 : (.fieldLink "WatchListModel" 56 "WatchListModel" "actions" "[B" : Cond) ∈ gG := (List.mem_append_right _ (List.mem_append_right _ (List.mem_append_right _ (List.mem_append_left _ (List.mem_of_getElem? (i := 56) rfl)))))
theorem mG_237 : (.fieldLink "WatchListModel" 102 "WatchListModel" "size" "I" : Cond) ∈ gG := (List.mem_append_right _ (List.mem_append_right _ (List.mem_append_right _ (List.mem_append_left _ (List.mem_of_getElem? (i := 57) rfl)))))
theorem mG_238 : (.fieldLink "WatchListModel" 60 "WatchListModel" "text" "[B" : Cond) ∈ gG := (List.mem_append_right _ (List.mem_append_right _ (List.mem_append_right _ (List.mem_append_left _ (List.mem_of_getElem? (i := 58) rfl)))))
theorem mG_239 : (.arrayClass .boolean : Cond) ∈ gG := (List.mem_append_right _ (List.mem_append_right _ (List.mem_append_right _ (List.mem_append_left _ (List.mem_of_getElem? (i := 59) rfl)))))
theorem mG_240 : (.methodLink "WatchListLaw" 17 yX4_set : Cond) ∈ gG := (List.mem_append_right _ (List.mem_append_right _ (List.mem_append_right _ (List.mem_append_right _ (List.mem_append_left _ (List.mem_of_getElem? (i := 0) rfl))))))
theorem mG_241 : (.instanceMethod yX4_set : Cond) ∈ gG := (List.mem_append_right _ (List.mem_append_right _ (List.mem_append_right _ (List.mem_append_right _ (List.mem_append_left _ (List.mem_of_getElem? (i := 1) rfl))))))
theorem mG_242 : (.selects "WatchListModel" yX4_set yX4_set : Cond) ∈ gG := (List.mem_append_right _ (List.mem_append_right _ (List.mem_append_right _ (List.mem_append_right _ (List.mem_append_left _ (List.mem_of_getElem? (i := 2) rfl))))))
theorem mG_243 : (.code yX4_set prog_6_method_3_code 3 (some .boolean) : Cond) ∈ gG := (List.mem_append_right _ (List.mem_append_right _ (List.mem_append_right _ (List.mem_append_right _ (List.mem_append_left _ (List.mem_of_getElem? (i := 3) rfl))))))
theorem mG_244 : (.methodLink "WatchListLaw" 22 yX4_add : Cond) ∈ gG := (List.mem_append_right _ (List.mem_append_right _ (List.mem_append_right _ (List.mem_append_right _ (List.mem_append_left _ (List.mem_of_getElem? (i := 4) rfl))))))
theorem mG_245 : (.instanceMethod yX4_add : Cond) ∈ gG := (List.mem_append_right _ (List.mem_append_right _ (List.mem_append_right _ (List.mem_append_right _ (List.mem_append_left _ (List.mem_of_getElem? (i := 5) rfl))))))
theorem mG_246 : (.selects "WatchListModel" yX4_add yX4_add : Cond) ∈ gG := (List.mem_append_right _ (List.mem_append_right _ (List.mem_append_right _ (List.mem_append_right _ (List.mem_append_left _ (List.mem_of_getElem? (i := 6) rfl))))))
theorem mG_247 : (.code yX4_add prog_6_method_7_code 8 (some .int) : Cond) ∈ gG := (List.mem_append_right _ (List.mem_append_right _ (List.mem_append_right _ (List.mem_append_right _ (List.mem_append_left _ (List.mem_of_getElem? (i := 7) rfl))))))
theorem mG_248 : (.methodLink "WatchListModel" 67 yX4_isIn : Cond) ∈ gG := (List.mem_append_right _ (List.mem_append_right _ (List.mem_append_right _ (List.mem_append_right _ (List.mem_append_left _ (List.mem_of_getElem? (i := 8) rfl))))))
theorem mG_249 : (.static yX4_isIn : Cond) ∈ gG := (List.mem_append_right _ (List.mem_append_right _ (List.mem_append_right _ (List.mem_append_right _ (List.mem_append_left _ (List.mem_of_getElem? (i := 9) rfl))))))
theorem mG_250 : (.code yX4_isIn prog_6_method_6_code 3 (some .boolean) : Cond) ∈ gG := (List.mem_append_right _ (List.mem_append_right _ (List.mem_append_right _ (List.mem_append_right _ (List.mem_append_left _ (List.mem_of_getElem? (i := 10) rfl))))))
theorem mG_251 : (.methodLink "WatchListModel" 71 yX4_limits : Cond) ∈ gG := (List.mem_append_right _ (List.mem_append_right _ (List.mem_append_right _ (List.mem_append_right _ (List.mem_append_left _ (List.mem_of_getElem? (i := 11) rfl))))))
theorem mG_252 : (.instanceMethod yX4_limits : Cond) ∈ gG := (List.mem_append_right _ (List.mem_append_right _ (List.mem_append_right _ (List.mem_append_right _ (List.mem_append_left _ (List.mem_of_getElem? (i := 12) rfl))))))
theorem mG_253 : (.code yX4_limits prog_6_method_5_code 3 (some .int) : Cond) ∈ gG := (List.mem_append_right _ (List.mem_append_right _ (List.mem_append_right _ (List.mem_append_right _ (List.mem_append_left _ (List.mem_of_getElem? (i := 13) rfl))))))
theorem mG_254 : (.methodLink "WatchListLaw" 27 yX4_remove : Cond) ∈ gG := (List.mem_append_right _ (List.mem_append_right _ (List.mem_append_right _ (List.mem_append_right _ (List.mem_append_left _ (List.mem_of_getElem? (i := 14) rfl))))))
theorem mG_255 : (.instanceMethod yX4_remove : Cond) ∈ gG := (List.mem_append_right _ (List.mem_append_right _ (List.mem_append_right _ (List.mem_append_right _ (List.mem_append_left _ (List.mem_of_getElem? (i := 15) rfl))))))
theorem mG_256 : (.selects "WatchListModel" yX4_remove yX4_remove : Cond) ∈ gG := (List.mem_append_right _ (List.mem_append_right _ (List.mem_append_right _ (List.mem_append_right _ (List.mem_append_left _ (List.mem_of_getElem? (i := 16) rfl))))))
theorem mG_257 : (.code yX4_remove prog_6_method_8_code 2 (some .int) : Cond) ∈ gG := (List.mem_append_right _ (List.mem_append_right _ (List.mem_append_right _ (List.mem_append_right _ (List.mem_append_left _ (List.mem_of_getElem? (i := 17) rfl))))))
theorem mG_258 : (.methodLink "WatchListModel" 75 yX4_isThere : Cond) ∈ gG := (List.mem_append_right _ (List.mem_append_right _ (List.mem_append_right _ (List.mem_append_right _ (List.mem_append_left _ (List.mem_of_getElem? (i := 18) rfl))))))
theorem mG_259 : (.instanceMethod yX4_isThere : Cond) ∈ gG := (List.mem_append_right _ (List.mem_append_right _ (List.mem_append_right _ (List.mem_append_right _ (List.mem_append_left _ (List.mem_of_getElem? (i := 19) rfl))))))
theorem mG_260 : (.code yX4_isThere prog_6_method_4_code 2 (some .boolean) : Cond) ∈ gG := (List.mem_append_right _ (List.mem_append_right _ (List.mem_append_right _ (List.mem_append_right _ (List.mem_append_left _ (List.mem_of_getElem? (i := 20) rfl))))))
theorem mG_261 : (.methodLink "WatchListLaw" 32 yX4_enable : Cond) ∈ gG := (List.mem_append_right _ (List.mem_append_right _ (List.mem_append_right _ (List.mem_append_right _ (List.mem_append_left _ (List.mem_of_getElem? (i := 21) rfl))))))
theorem mG_262 : (.instanceMethod yX4_enable : Cond) ∈ gG := (List.mem_append_right _ (List.mem_append_right _ (List.mem_append_right _ (List.mem_append_right _ (List.mem_append_left _ (List.mem_of_getElem? (i := 22) rfl))))))
theorem mG_263 : (.selects "WatchListModel" yX4_enable yX4_enable : Cond) ∈ gG := (List.mem_append_right _ (List.mem_append_right _ (List.mem_append_right _ (List.mem_append_right _ (List.mem_append_left _ (List.mem_of_getElem? (i := 23) rfl))))))
theorem mG_264 : (.code yX4_enable prog_6_method_9_code 3 (some .int) : Cond) ∈ gG := (List.mem_append_right _ (List.mem_append_right _ (List.mem_append_right _ (List.mem_append_right _ (List.mem_append_left _ (List.mem_of_getElem? (i := 24) rfl))))))
theorem mG_265 : (.methodLink "WatchListLaw" 37 yX4_watch : Cond) ∈ gG := (List.mem_append_right _ (List.mem_append_right _ (List.mem_append_right _ (List.mem_append_right _ (List.mem_append_left _ (List.mem_of_getElem? (i := 25) rfl))))))
theorem mG_266 : (.instanceMethod yX4_watch : Cond) ∈ gG := (List.mem_append_right _ (List.mem_append_right _ (List.mem_append_right _ (List.mem_append_right _ (List.mem_append_left _ (List.mem_of_getElem? (i := 26) rfl))))))
theorem mG_267 : (.selects "WatchListModel" yX4_watch yX4_watch : Cond) ∈ gG := (List.mem_append_right _ (List.mem_append_right _ (List.mem_append_right _ (List.mem_append_right _ (List.mem_append_left _ (List.mem_of_getElem? (i := 27) rfl))))))
theorem mG_268 : (.code yX4_watch prog_6_method_11_code 5 (some .int) : Cond) ∈ gG := (List.mem_append_right _ (List.mem_append_right _ (List.mem_append_right _ (List.mem_append_right _ (List.mem_append_left _ (List.mem_of_getElem? (i := 28) rfl))))))
theorem mG_269 : (.methodLink "WatchListModel" 89 yX4_waits : Cond) ∈ gG := (List.mem_append_right _ (List.mem_append_right _ (List.mem_append_right _ (List.mem_append_right _ (List.mem_append_left _ (List.mem_of_getElem? (i := 29) rfl))))))
theorem mG_270 : (.instanceMethod yX4_waits : Cond) ∈ gG := (List.mem_append_right _ (List.mem_append_right _ (List.mem_append_right _ (List.mem_append_right _ (List.mem_append_left _ (List.mem_of_getElem? (i := 30) rfl))))))
theorem mG_271 : (.code yX4_waits prog_6_method_10_code 3 (some .boolean) : Cond) ∈ gG := (List.mem_append_right _ (List.mem_append_right _ (List.mem_append_right _ (List.mem_append_right _ (List.mem_append_left _ (List.mem_of_getElem? (i := 31) rfl))))))
theorem mG_272 : (.methodLink "WatchListLaw" 42 yX4_linked : Cond) ∈ gG := (List.mem_append_right _ (List.mem_append_right _ (List.mem_append_right _ (List.mem_append_right _ (List.mem_append_left _ (List.mem_of_getElem? (i := 32) rfl))))))
theorem mG_273 : (.instanceMethod yX4_linked : Cond) ∈ gG := (List.mem_append_right _ (List.mem_append_right _ (List.mem_append_right _ (List.mem_append_right _ (List.mem_append_left _ (List.mem_of_getElem? (i := 33) rfl))))))
theorem mG_274 : (.selects "WatchListModel" yX4_linked yX4_linked : Cond) ∈ gG := (List.mem_append_right _ (List.mem_append_right _ (List.mem_append_right _ (List.mem_append_right _ (List.mem_append_left _ (List.mem_of_getElem? (i := 34) rfl))))))
theorem mG_275 : (.code yX4_linked prog_6_method_12_code 1 (some .boolean) : Cond) ∈ gG := (List.mem_append_right _ (List.mem_append_right _ (List.mem_append_right _ (List.mem_append_right _ (List.mem_append_left _ (List.mem_of_getElem? (i := 35) rfl))))))
theorem mG_276 : (.methodLink "WatchListLaw" 46 yX4_raise : Cond) ∈ gG := (List.mem_append_right _ (List.mem_append_right _ (List.mem_append_right _ (List.mem_append_right _ (List.mem_append_left _ (List.mem_of_getElem? (i := 36) rfl))))))
theorem mG_277 : (.instanceMethod yX4_raise : Cond) ∈ gG := (List.mem_append_right _ (List.mem_append_right _ (List.mem_append_right _ (List.mem_append_right _ (List.mem_append_left _ (List.mem_of_getElem? (i := 37) rfl))))))
theorem mG_278 : (.selects "WatchListModel" yX4_raise yX4_raise : Cond) ∈ gG := (List.mem_append_right _ (List.mem_append_right _ (List.mem_append_right _ (List.mem_append_right _ (List.mem_append_left _ (List.mem_of_getElem? (i := 38) rfl))))))
theorem mG_279 : (.code yX4_raise prog_6_method_14_code 3 (some .boolean) : Cond) ∈ gG := (List.mem_append_right _ (List.mem_append_right _ (List.mem_append_right _ (List.mem_append_right _ (List.mem_append_left _ (List.mem_of_getElem? (i := 39) rfl))))))
theorem mG_280 : (.methodLink "WatchListModel" 96 yX4_isEvent : Cond) ∈ gG := (List.mem_append_right _ (List.mem_append_right _ (List.mem_append_right _ (List.mem_append_right _ (List.mem_append_left _ (List.mem_of_getElem? (i := 40) rfl))))))
theorem mG_281 : (.static yX4_isEvent : Cond) ∈ gG := (List.mem_append_right _ (List.mem_append_right _ (List.mem_append_right _ (List.mem_append_right _ (List.mem_append_left _ (List.mem_of_getElem? (i := 41) rfl))))))
theorem mG_282 : (.code yX4_isEvent prog_6_method_13_code 1 (some .boolean) : Cond) ∈ gG := (List.mem_append_right _ (List.mem_append_right _ (List.mem_append_right _ (List.mem_append_right _ (List.mem_append_left _ (List.mem_of_getElem? (i := 42) rfl))))))
theorem mG_283 : (.methodLink "WatchListLaw" 50 yX4_work : Cond) ∈ gG := (List.mem_append_right _ (List.mem_append_right _ (List.mem_append_right _ (List.mem_append_right _ (List.mem_append_left _ (List.mem_of_getElem? (i := 43) rfl))))))
theorem mG_284 : (.instanceMethod yX4_work : Cond) ∈ gG := (List.mem_append_right _ (List.mem_append_right _ (List.mem_append_right _ (List.mem_append_right _ (List.mem_append_left _ (List.mem_of_getElem? (i := 44) rfl))))))
theorem mG_285 : (.selects "WatchListModel" yX4_work yX4_work : Cond) ∈ gG := (List.mem_append_right _ (List.mem_append_right _ (List.mem_append_right _ (List.mem_append_right _ (List.mem_append_left _ (List.mem_of_getElem? (i := 45) rfl))))))
theorem mG_286 : (.code yX4_work prog_6_method_15_code 3 (some .int) : Cond) ∈ gG := (List.mem_append_right _ (List.mem_append_right _ (List.mem_append_right _ (List.mem_append_right _ (List.mem_append_left _ (List.mem_of_getElem? (i := 46) rfl))))))
theorem mG_287 : (.methodLink "WatchListLaw" 54 yX4_lose : Cond) ∈ gG := (List.mem_append_right _ (List.mem_append_right _ (List.mem_append_right _ (List.mem_append_right _ (List.mem_append_left _ (List.mem_of_getElem? (i := 47) rfl))))))
theorem mG_288 : (.instanceMethod yX4_lose : Cond) ∈ gG := (List.mem_append_right _ (List.mem_append_right _ (List.mem_append_right _ (List.mem_append_right _ (List.mem_append_left _ (List.mem_of_getElem? (i := 48) rfl))))))
theorem mG_289 : (.selects "WatchListModel" yX4_lose yX4_lose : Cond) ∈ gG := (List.mem_append_right _ (List.mem_append_right _ (List.mem_append_right _ (List.mem_append_right _ (List.mem_append_left _ (List.mem_of_getElem? (i := 49) rfl))))))
theorem mG_290 : (.code yX4_lose prog_6_method_16_code 2 (some .int) : Cond) ∈ gG := (List.mem_append_right _ (List.mem_append_right _ (List.mem_append_right _ (List.mem_append_right _ (List.mem_append_left _ (List.mem_of_getElem? (i := 50) rfl))))))
theorem mG_291 : (.methodLink "WatchListLaw" 58 yX4_tell : Cond) ∈ gG := (List.mem_append_right _ (List.mem_append_right _ (List.mem_append_right _ (List.mem_append_right _ (List.mem_append_left _ (List.mem_of_getElem? (i := 51) rfl))))))
theorem mG_292 : (.instanceMethod yX4_tell : Cond) ∈ gG := (List.mem_append_right _ (List.mem_append_right _ (List.mem_append_right _ (List.mem_append_right _ (List.mem_append_left _ (List.mem_of_getElem? (i := 52) rfl))))))
theorem mG_293 : (.selects "WatchListModel" yX4_tell yX4_tell : Cond) ∈ gG := (List.mem_append_right _ (List.mem_append_right _ (List.mem_append_right _ (List.mem_append_right _ (List.mem_append_left _ (List.mem_of_getElem? (i := 53) rfl))))))
theorem mG_294 : (.code yX4_tell prog_6_method_17_code 3 (some .int) : Cond) ∈ gG := (List.mem_append_right _ (List.mem_append_right _ (List.mem_append_right _ (List.mem_append_right _ (List.mem_append_left _ (List.mem_of_getElem? (i := 54) rfl))))))
theorem mG_295 : (.methodLink "WatchListLaw" 62 yX4_put : Cond) ∈ gG := (List.mem_append_right _ (List.mem_append_right _ (List.mem_append_right _ (List.mem_append_right _ (List.mem_append_left _ (List.mem_of_getElem? (i := 55) rfl))))))
theorem mG_296 : (.instanceMethod yX4_put : Cond) ∈ gG := (List.mem_append_right _ (List.mem_append_right _ (List.mem_append_right _ (List.mem_append_right _ (List.mem_append_left _ (List.mem_of_getElem? (i := 56) rfl))))))
theorem mG_297 : (.selects "WatchListModel" yX4_put yX4_put : Cond) ∈ gG := (List.mem_append_right _ (List.mem_append_right _ (List.mem_append_right _ (List.mem_append_right _ (List.mem_append_left _ (List.mem_of_getElem? (i := 57) rfl))))))
theorem mG_298 : (.code yX4_put prog_6_method_18_code 2 (some .int) : Cond) ∈ gG := (List.mem_append_right _ (List.mem_append_right _ (List.mem_append_right _ (List.mem_append_right _ (List.mem_append_left _ (List.mem_of_getElem? (i := 58) rfl))))))
theorem mG_299 : (.methodLink "WatchListLaw" 66 yX4_act : Cond) ∈ gG := (List.mem_append_right _ (List.mem_append_right _ (List.mem_append_right _ (List.mem_append_right _ (List.mem_append_left _ (List.mem_of_getElem? (i := 59) rfl))))))
theorem mG_300 : (.instanceMethod yX4_act : Cond) ∈ gG := (List.mem_append_right _ (List.mem_append_right _ (List.mem_append_right _ (List.mem_append_right _ (List.mem_append_right _ (List.mem_append_left _ (List.mem_of_getElem? (i := 0) rfl)))))))
theorem mG_301 : (.selects "WatchListModel" yX4_act yX4_act : Cond) ∈ gG := (List.mem_append_right _ (List.mem_append_right _ (List.mem_append_right _ (List.mem_append_right _ (List.mem_append_right _ (List.mem_append_left _ (List.mem_of_getElem? (i := 1) rfl)))))))
theorem mG_302 : (.code yX4_act prog_6_method_19_code 4 (some .int) : Cond) ∈ gG := (List.mem_append_right _ (List.mem_append_right _ (List.mem_append_right _ (List.mem_append_right _ (List.mem_append_right _ (List.mem_append_left _ (List.mem_of_getElem? (i := 2) rfl)))))))
theorem mG_303 : (.methodLink "WatchListLaw" 70 yX4_drop : Cond) ∈ gG := (List.mem_append_right _ (List.mem_append_right _ (List.mem_append_right _ (List.mem_append_right _ (List.mem_append_right _ (List.mem_append_left _ (List.mem_of_getElem? (i := 3) rfl)))))))
theorem mG_304 : (.instanceMethod yX4_drop : Cond) ∈ gG := (List.mem_append_right _ (List.mem_append_right _ (List.mem_append_right _ (List.mem_append_right _ (List.mem_append_right _ (List.mem_append_left _ (List.mem_of_getElem? (i := 4) rfl)))))))
theorem mG_305 : (.selects "WatchListModel" yX4_drop yX4_drop : Cond) ∈ gG := (List.mem_append_right _ (List.mem_append_right _ (List.mem_append_right _ (List.mem_append_right _ (List.mem_append_right _ (List.mem_append_left _ (List.mem_of_getElem? (i := 5) rfl)))))))
theorem mG_306 : (.code yX4_drop prog_6_method_20_code 2 (some .int) : Cond) ∈ gG := (List.mem_append_right _ (List.mem_append_right _ (List.mem_append_right _ (List.mem_append_right _ (List.mem_append_right _ (List.mem_append_left _ (List.mem_of_getElem? (i := 6) rfl)))))))
theorem mG_307 : (.methodLink "WatchListLaw" 74 yX4_arm : Cond) ∈ gG := (List.mem_append_right _ (List.mem_append_right _ (List.mem_append_right _ (List.mem_append_right _ (List.mem_append_right _ (List.mem_append_left _ (List.mem_of_getElem? (i := 7) rfl)))))))
theorem mG_308 : (.instanceMethod yX4_arm : Cond) ∈ gG := (List.mem_append_right _ (List.mem_append_right _ (List.mem_append_right _ (List.mem_append_right _ (List.mem_append_right _ (List.mem_append_left _ (List.mem_of_getElem? (i := 8) rfl)))))))
theorem mG_309 : (.selects "WatchListModel" yX4_arm yX4_arm : Cond) ∈ gG := (List.mem_append_right _ (List.mem_append_right _ (List.mem_append_right _ (List.mem_append_right _ (List.mem_append_right _ (List.mem_append_left _ (List.mem_of_getElem? (i := 9) rfl)))))))
theorem mG_310 : (.code yX4_arm prog_6_method_21_code 3 (some .int) : Cond) ∈ gG := (List.mem_append_right _ (List.mem_append_right _ (List.mem_append_right _ (List.mem_append_right _ (List.mem_append_right _ (List.mem_append_left _ (List.mem_of_getElem? (i := 10) rfl)))))))
theorem mG_311 : (.methodLink "WatchListLaw" 79 yX4_limit : Cond) ∈ gG := (List.mem_append_right _ (List.mem_append_right _ (List.mem_append_right _ (List.mem_append_right _ (List.mem_append_right _ (List.mem_append_left _ (List.mem_of_getElem? (i := 11) rfl)))))))
theorem mG_312 : (.instanceMethod yX4_limit : Cond) ∈ gG := (List.mem_append_right _ (List.mem_append_right _ (List.mem_append_right _ (List.mem_append_right _ (List.mem_append_right _ (List.mem_append_left _ (List.mem_of_getElem? (i := 12) rfl)))))))
theorem mG_313 : (.selects "WatchListModel" yX4_limit yX4_limit : Cond) ∈ gG := (List.mem_append_right _ (List.mem_append_right _ (List.mem_append_right _ (List.mem_append_right _ (List.mem_append_right _ (List.mem_append_left _ (List.mem_of_getElem? (i := 13) rfl)))))))
theorem mG_314 : (.code yX4_limit prog_6_method_22_code 3 (some .int) : Cond) ∈ gG := (List.mem_append_right _ (List.mem_append_right _ (List.mem_append_right _ (List.mem_append_right _ (List.mem_append_right _ (List.mem_append_left _ (List.mem_of_getElem? (i := 14) rfl)))))))
theorem mG_315 : (.methodLink "WatchListLaw" 83 yX4_event : Cond) ∈ gG := (List.mem_append_right _ (List.mem_append_right _ (List.mem_append_right _ (List.mem_append_right _ (List.mem_append_right _ (List.mem_append_left _ (List.mem_of_getElem? (i := 15) rfl)))))))
theorem mG_316 : (.instanceMethod yX4_event : Cond) ∈ gG := (List.mem_append_right _ (List.mem_append_right _ (List.mem_append_right _ (List.mem_append_right _ (List.mem_append_right _ (List.mem_append_left _ (List.mem_of_getElem? (i := 16) rfl)))))))
theorem mG_317 : (.selects "WatchListModel" yX4_event yX4_event : Cond) ∈ gG := (List.mem_append_right _ (List.mem_append_right _ (List.mem_append_right _ (List.mem_append_right _ (List.mem_append_right _ (List.mem_append_left _ (List.mem_of_getElem? (i := 17) rfl)))))))
theorem mG_318 : (.code yX4_event prog_6_method_23_code 3 (some .int) : Cond) ∈ gG := (List.mem_append_right _ (List.mem_append_right _ (List.mem_append_right _ (List.mem_append_right _ (List.mem_append_right _ (List.mem_append_left _ (List.mem_of_getElem? (i := 18) rfl)))))))
theorem mG_319 : (.methodLink "WatchListLaw" 87 yX4_actionAt : Cond) ∈ gG := (List.mem_append_right _ (List.mem_append_right _ (List.mem_append_right _ (List.mem_append_right _ (List.mem_append_right _ (List.mem_append_left _ (List.mem_of_getElem? (i := 19) rfl)))))))
theorem mG_320 : (.instanceMethod yX4_actionAt : Cond) ∈ gG := (List.mem_append_right _ (List.mem_append_right _ (List.mem_append_right _ (List.mem_append_right _ (List.mem_append_right _ (List.mem_append_left _ (List.mem_of_getElem? (i := 20) rfl)))))))
theorem mG_321 : (.selects "WatchListModel" yX4_actionAt yX4_actionAt : Cond) ∈ gG := (List.mem_append_right _ (List.mem_append_right _ (List.mem_append_right _ (List.mem_append_right _ (List.mem_append_right _ (List.mem_append_left _ (List.mem_of_getElem? (i := 21) rfl)))))))
theorem mG_322 : (.code yX4_actionAt prog_6_method_24_code 3 (some .int) : Cond) ∈ gG := (List.mem_append_right _ (List.mem_append_right _ (List.mem_append_right _ (List.mem_append_right _ (List.mem_append_right _ (List.mem_append_left _ (List.mem_of_getElem? (i := 22) rfl)))))))
theorem mG_323 : (.methodLink "WatchListLaw" 91 yX4_count : Cond) ∈ gG := (List.mem_append_right _ (List.mem_append_right _ (List.mem_append_right _ (List.mem_append_right _ (List.mem_append_right _ (List.mem_append_left _ (List.mem_of_getElem? (i := 23) rfl)))))))
theorem mG_324 : (.instanceMethod yX4_count : Cond) ∈ gG := (List.mem_append_right _ (List.mem_append_right _ (List.mem_append_right _ (List.mem_append_right _ (List.mem_append_right _ (List.mem_append_left _ (List.mem_of_getElem? (i := 24) rfl)))))))
theorem mG_325 : (.selects "WatchListModel" yX4_count yX4_count : Cond) ∈ gG := (List.mem_append_right _ (List.mem_append_right _ (List.mem_append_right _ (List.mem_append_right _ (List.mem_append_right _ (List.mem_append_left _ (List.mem_of_getElem? (i := 25) rfl)))))))
theorem mG_326 : (.code yX4_count prog_6_method_25_code 2 (some .int) : Cond) ∈ gG := (List.mem_append_right _ (List.mem_append_right _ (List.mem_append_right _ (List.mem_append_right _ (List.mem_append_right _ (List.mem_append_left _ (List.mem_of_getElem? (i := 26) rfl)))))))
theorem inX0 : ∀ w ∈ wsX00, w ∈ gG := fun _ h => (List.mem_append_right _ (List.mem_append_right _ (List.mem_append_right _ (List.mem_append_right _ (List.mem_append_right _ (List.mem_append_right _ (List.mem_append_left _ (List.mem_append_left _ (List.mem_append_left _ (List.mem_append_left _ h))))))))))
theorem inX1 : ∀ w ∈ wsX10, w ∈ gG := fun _ h => (List.mem_append_right _ (List.mem_append_right _ (List.mem_append_right _ (List.mem_append_right _ (List.mem_append_right _ (List.mem_append_right _ (List.mem_append_left _ (List.mem_append_left _ (List.mem_append_left _ (List.mem_append_right _ h))))))))))
theorem inX2 : ∀ w ∈ wsX20, w ∈ gG := fun _ h => (List.mem_append_right _ (List.mem_append_right _ (List.mem_append_right _ (List.mem_append_right _ (List.mem_append_right _ (List.mem_append_right _ (List.mem_append_left _ (List.mem_append_left _ (List.mem_append_right _ h)))))))))
theorem inX3 : ∀ w ∈ wsX30, w ∈ gG := fun _ h => (List.mem_append_right _ (List.mem_append_right _ (List.mem_append_right _ (List.mem_append_right _ (List.mem_append_right _ (List.mem_append_right _ (List.mem_append_left _ (List.mem_append_right _ h))))))))
theorem inX4 : ∀ w ∈ wsX40, w ∈ gG := fun _ h => (List.mem_append_right _ (List.mem_append_right _ (List.mem_append_right _ (List.mem_append_right _ (List.mem_append_right _ (List.mem_append_right _ (List.mem_append_right _ h)))))))
theorem gG_ok : gG.all goodWord = true := by decide +kernel
theorem gG_in {b : Cond} (hb : b ∈ gG) : GoodIn gG (b :: gG) := by
  intro w hw
  have hm : w ∈ gG := by
    rcases List.mem_cons.mp hw with h | h
    · rw [h]; exact hb
    · exact h
  exact ⟨hm, good_of_word (List.all_eq_true.mp gG_ok w hm)⟩
def wsX3_init : List Cond := .code yX3_init prog_1_method_1_code 2 none :: gG
theorem pdX3_init : yX3_init.cls ≠ "java/lang/invoke/MethodHandle" ∧ yX3_init.cls ≠ "java/lang/invoke/VarHandle" ∧ (parseMethodDescriptor yX3_init.desc).map (fun d => d.parameters.length) = some 0 := by decide +kernel
theorem giX3_init : GoodIn gG wsX3_init := gG_in mG_32
def wsX2_init : List Cond := .code yX2_init prog_4_method_1_code 1 none :: gG
theorem pdX2_init : yX2_init.cls ≠ "java/lang/invoke/MethodHandle" ∧ yX2_init.cls ≠ "java/lang/invoke/VarHandle" ∧ (parseMethodDescriptor yX2_init.desc).map (fun d => d.parameters.length) = some 0 := by decide +kernel
theorem giX2_init : GoodIn gG wsX2_init := gG_in mG_41
def wsX1_init : List Cond := .code yX1_init prog_3_method_1_code 1 none :: gG
theorem pdX1_init : yX1_init.cls ≠ "java/lang/invoke/MethodHandle" ∧ yX1_init.cls ≠ "java/lang/invoke/VarHandle" ∧ (parseMethodDescriptor yX1_init.desc).map (fun d => d.parameters.length) = some 0 := by decide +kernel
theorem giX1_init : GoodIn gG wsX1_init := gG_in mG_50
def wsX0_init : List Cond := .code yX0_init prog_2_method_1_code 1 none :: gG
theorem pdX0_init : yX0_init.cls ≠ "java/lang/invoke/MethodHandle" ∧ yX0_init.cls ≠ "java/lang/invoke/VarHandle" ∧ (parseMethodDescriptor yX0_init.desc).map (fun d => d.parameters.length) = some 0 := by decide +kernel
theorem giX0_init : GoodIn gG wsX0_init := gG_in mG_64
def wsX3_set : List Cond := .code yX3_set prog_1_method_2_code 3 (some .boolean) :: gG
theorem pdX3_set : yX3_set.cls ≠ "java/lang/invoke/MethodHandle" ∧ yX3_set.cls ≠ "java/lang/invoke/VarHandle" ∧ (parseMethodDescriptor yX3_set.desc).map (fun d => d.parameters.length) = some 2 := by decide +kernel
theorem giX3_set : GoodIn gG wsX3_set := gG_in mG_84
def wsX3_isParameter : List Cond := .code yX3_isParameter prog_1_method_20_code 1 (some .boolean) :: gG
theorem pdX3_isParameter : yX3_isParameter.cls ≠ "java/lang/invoke/MethodHandle" ∧ yX3_isParameter.cls ≠ "java/lang/invoke/VarHandle" ∧ (parseMethodDescriptor yX3_isParameter.desc).map (fun d => d.parameters.length) = some 1 := by decide +kernel
theorem giX3_isParameter : GoodIn gG wsX3_isParameter := gG_in mG_87
def wsX3_add : List Cond := .code yX3_add prog_1_method_3_code 10 (some .int) :: gG
theorem pdX3_add : yX3_add.cls ≠ "java/lang/invoke/MethodHandle" ∧ yX3_add.cls ≠ "java/lang/invoke/VarHandle" ∧ (parseMethodDescriptor yX3_add.desc).map (fun d => d.parameters.length) = some 7 := by decide +kernel
theorem giX3_add : GoodIn gG wsX3_add := gG_in mG_91
def wsX3_isId : List Cond := .code yX3_isId prog_1_method_21_code 1 (some .boolean) :: gG
theorem pdX3_isId : yX3_isId.cls ≠ "java/lang/invoke/MethodHandle" ∧ yX3_isId.cls ≠ "java/lang/invoke/VarHandle" ∧ (parseMethodDescriptor yX3_isId.desc).map (fun d => d.parameters.length) = some 1 := by decide +kernel
theorem giX3_isId : GoodIn gG wsX3_isId := gG_in mG_94
def wsX3_isEvent : List Cond := .code yX3_isEvent prog_1_method_22_code 1 (some .boolean) :: gG
theorem pdX3_isEvent : yX3_isEvent.cls ≠ "java/lang/invoke/MethodHandle" ∧ yX3_isEvent.cls ≠ "java/lang/invoke/VarHandle" ∧ (parseMethodDescriptor yX3_isEvent.desc).map (fun d => d.parameters.length) = some 1 := by decide +kernel
theorem giX3_isEvent : GoodIn gG wsX3_isEvent := gG_in mG_97
def wsX3_placeOf : List Cond := .code yX3_placeOf prog_1_method_24_code 3 (some .int) :: gG
theorem pdX3_placeOf : yX3_placeOf.cls ≠ "java/lang/invoke/MethodHandle" ∧ yX3_placeOf.cls ≠ "java/lang/invoke/VarHandle" ∧ (parseMethodDescriptor yX3_placeOf.desc).map (fun d => d.parameters.length) = some 1 := by decide +kernel
theorem giX3_placeOf : GoodIn gG wsX3_placeOf := gG_in mG_100
def wsX3_openPlaceFor : List Cond := .code yX3_openPlaceFor prog_1_method_25_code 4 (Option.some (.object "WatchList$Limit")) :: gG
theorem pdX3_openPlaceFor : yX3_openPlaceFor.cls ≠ "java/lang/invoke/MethodHandle" ∧ yX3_openPlaceFor.cls ≠ "java/lang/invoke/VarHandle" ∧ (parseMethodDescriptor yX3_openPlaceFor.desc).map (fun d => d.parameters.length) = some 1 := by decide +kernel
theorem giX3_openPlaceFor : GoodIn gG wsX3_openPlaceFor := gG_in mG_103
def wsX1_begin : List Cond := .code yX1_begin prog_3_method_2_code 8 none :: gG
theorem pdX1_begin : yX1_begin.cls ≠ "java/lang/invoke/MethodHandle" ∧ yX1_begin.cls ≠ "java/lang/invoke/VarHandle" ∧ (parseMethodDescriptor yX1_begin.desc).map (fun d => d.parameters.length) = some 7 := by decide +kernel
theorem giX1_begin : GoodIn gG wsX1_begin := gG_in mG_105
def wsX1_turn : List Cond := .code yX1_turn prog_3_method_3_code 2 none :: gG
theorem pdX1_turn : yX1_turn.cls ≠ "java/lang/invoke/MethodHandle" ∧ yX1_turn.cls ≠ "java/lang/invoke/VarHandle" ∧ (parseMethodDescriptor yX1_turn.desc).map (fun d => d.parameters.length) = some 1 := by decide +kernel
theorem giX1_turn : GoodIn gG wsX1_turn := gG_in mG_108
def wsX3_remove : List Cond := .code yX3_remove prog_1_method_4_code 3 (some .int) :: gG
theorem pdX3_remove : yX3_remove.cls ≠ "java/lang/invoke/MethodHandle" ∧ yX3_remove.cls ≠ "java/lang/invoke/VarHandle" ∧ (parseMethodDescriptor yX3_remove.desc).map (fun d => d.parameters.length) = some 1 := by decide +kernel
theorem giX3_remove : GoodIn gG wsX3_remove := gG_in mG_112
def wsX3_closePlace : List Cond := .code yX3_closePlace prog_1_method_26_code 4 none :: gG
theorem pdX3_closePlace : yX3_closePlace.cls ≠ "java/lang/invoke/MethodHandle" ∧ yX3_closePlace.cls ≠ "java/lang/invoke/VarHandle" ∧ (parseMethodDescriptor yX3_closePlace.desc).map (fun d => d.parameters.length) = some 1 := by decide +kernel
theorem giX3_closePlace : GoodIn gG wsX3_closePlace := gG_in mG_115
def wsX3_enable : List Cond := .code yX3_enable prog_1_method_5_code 4 (some .int) :: gG
theorem pdX3_enable : yX3_enable.cls ≠ "java/lang/invoke/MethodHandle" ∧ yX3_enable.cls ≠ "java/lang/invoke/VarHandle" ∧ (parseMethodDescriptor yX3_enable.desc).map (fun d => d.parameters.length) = some 2 := by decide +kernel
theorem giX3_enable : GoodIn gG wsX3_enable := gG_in mG_119
def wsX3_watch : List Cond := .code yX3_watch prog_1_method_6_code 5 (some .int) :: gG
theorem pdX3_watch : yX3_watch.cls ≠ "java/lang/invoke/MethodHandle" ∧ yX3_watch.cls ≠ "java/lang/invoke/VarHandle" ∧ (parseMethodDescriptor yX3_watch.desc).map (fun d => d.parameters.length) = some 0 := by decide +kernel
theorem giX3_watch : GoodIn gG wsX3_watch := gG_in mG_123
def wsX1_breaksAt : List Cond := .code yX1_breaksAt prog_3_method_4_code 2 (some .boolean) :: gG
theorem pdX1_breaksAt : yX1_breaksAt.cls ≠ "java/lang/invoke/MethodHandle" ∧ yX1_breaksAt.cls ≠ "java/lang/invoke/VarHandle" ∧ (parseMethodDescriptor yX1_breaksAt.desc).map (fun d => d.parameters.length) = some 1 := by decide +kernel
theorem giX1_breaksAt : GoodIn gG wsX1_breaksAt := gG_in mG_125
def wsX3_waitOrLose : List Cond := .code yX3_waitOrLose prog_1_method_27_code 3 (some .boolean) :: gG
theorem pdX3_waitOrLose : yX3_waitOrLose.cls ≠ "java/lang/invoke/MethodHandle" ∧ yX3_waitOrLose.cls ≠ "java/lang/invoke/VarHandle" ∧ (parseMethodDescriptor yX3_waitOrLose.desc).map (fun d => d.parameters.length) = some 2 := by decide +kernel
theorem giX3_waitOrLose : GoodIn gG wsX3_waitOrLose := gG_in mG_128
def wsX2_append : List Cond := .code yX2_append prog_4_method_2_code 4 none :: gG
theorem pdX2_append : yX2_append.cls ≠ "java/lang/invoke/MethodHandle" ∧ yX2_append.cls ≠ "java/lang/invoke/VarHandle" ∧ (parseMethodDescriptor yX2_append.desc).map (fun d => d.parameters.length) = some 2 := by decide +kernel
theorem giX2_append : GoodIn gG wsX2_append := gG_in mG_130
def wsX3_linked : List Cond := .code yX3_linked prog_1_method_7_code 1 (some .boolean) :: gG
theorem pdX3_linked : yX3_linked.cls ≠ "java/lang/invoke/MethodHandle" ∧ yX3_linked.cls ≠ "java/lang/invoke/VarHandle" ∧ (parseMethodDescriptor yX3_linked.desc).map (fun d => d.parameters.length) = some 0 := by decide +kernel
theorem giX3_linked : GoodIn gG wsX3_linked := gG_in mG_134
def wsX3_raise : List Cond := .code yX3_raise prog_1_method_8_code 3 (some .boolean) :: gG
theorem pdX3_raise : yX3_raise.cls ≠ "java/lang/invoke/MethodHandle" ∧ yX3_raise.cls ≠ "java/lang/invoke/VarHandle" ∧ (parseMethodDescriptor yX3_raise.desc).map (fun d => d.parameters.length) = some 2 := by decide +kernel
theorem giX3_raise : GoodIn gG wsX3_raise := gG_in mG_138
def wsX3_work : List Cond := .code yX3_work prog_1_method_9_code 2 (some .int) :: gG
theorem pdX3_work : yX3_work.cls ≠ "java/lang/invoke/MethodHandle" ∧ yX3_work.cls ≠ "java/lang/invoke/VarHandle" ∧ (parseMethodDescriptor yX3_work.desc).map (fun d => d.parameters.length) = some 0 := by decide +kernel
theorem giX3_work : GoodIn gG wsX3_work := gG_in mG_142
def wsX2_firstEvent : List Cond := .code yX2_firstEvent prog_4_method_3_code 1 (some .int) :: gG
theorem pdX2_firstEvent : yX2_firstEvent.cls ≠ "java/lang/invoke/MethodHandle" ∧ yX2_firstEvent.cls ≠ "java/lang/invoke/VarHandle" ∧ (parseMethodDescriptor yX2_firstEvent.desc).map (fun d => d.parameters.length) = some 0 := by decide +kernel
theorem giX2_firstEvent : GoodIn gG wsX2_firstEvent := gG_in mG_144
def wsX2_firstNumber : List Cond := .code yX2_firstNumber prog_4_method_4_code 1 (some .int) :: gG
theorem pdX2_firstNumber : yX2_firstNumber.cls ≠ "java/lang/invoke/MethodHandle" ∧ yX2_firstNumber.cls ≠ "java/lang/invoke/VarHandle" ∧ (parseMethodDescriptor yX2_firstNumber.desc).map (fun d => d.parameters.length) = some 0 := by decide +kernel
theorem giX2_firstNumber : GoodIn gG wsX2_firstNumber := gG_in mG_146
def wsX2_takeFirst : List Cond := .code yX2_takeFirst prog_4_method_5_code 1 none :: gG
theorem pdX2_takeFirst : yX2_takeFirst.cls ≠ "java/lang/invoke/MethodHandle" ∧ yX2_takeFirst.cls ≠ "java/lang/invoke/VarHandle" ∧ (parseMethodDescriptor yX2_takeFirst.desc).map (fun d => d.parameters.length) = some 0 := by decide +kernel
theorem giX2_takeFirst : GoodIn gG wsX2_takeFirst := gG_in mG_148
def wsX3_lose : List Cond := .code yX3_lose prog_1_method_10_code 2 (some .int) :: gG
theorem pdX3_lose : yX3_lose.cls ≠ "java/lang/invoke/MethodHandle" ∧ yX3_lose.cls ≠ "java/lang/invoke/VarHandle" ∧ (parseMethodDescriptor yX3_lose.desc).map (fun d => d.parameters.length) = some 0 := by decide +kernel
theorem giX3_lose : GoodIn gG wsX3_lose := gG_in mG_152
def wsX2_empty : List Cond := .code yX2_empty prog_4_method_6_code 1 none :: gG
theorem pdX2_empty : yX2_empty.cls ≠ "java/lang/invoke/MethodHandle" ∧ yX2_empty.cls ≠ "java/lang/invoke/VarHandle" ∧ (parseMethodDescriptor yX2_empty.desc).map (fun d => d.parameters.length) = some 0 := by decide +kernel
theorem giX2_empty : GoodIn gG wsX2_empty := gG_in mG_154
def wsX3_tell : List Cond := .code yX3_tell prog_1_method_11_code 3 (some .int) :: gG
theorem pdX3_tell : yX3_tell.cls ≠ "java/lang/invoke/MethodHandle" ∧ yX3_tell.cls ≠ "java/lang/invoke/VarHandle" ∧ (parseMethodDescriptor yX3_tell.desc).map (fun d => d.parameters.length) = some 2 := by decide +kernel
theorem giX3_tell : GoodIn gG wsX3_tell := gG_in mG_158
def wsX3_put : List Cond := .code yX3_put prog_1_method_12_code 2 (some .int) :: gG
theorem pdX3_put : yX3_put.cls ≠ "java/lang/invoke/MethodHandle" ∧ yX3_put.cls ≠ "java/lang/invoke/VarHandle" ∧ (parseMethodDescriptor yX3_put.desc).map (fun d => d.parameters.length) = some 1 := by decide +kernel
theorem giX3_put : GoodIn gG wsX3_put := gG_in mG_162
def wsX3_act : List Cond := .code yX3_act prog_1_method_13_code 3 (some .int) :: gG
theorem pdX3_act : yX3_act.cls ≠ "java/lang/invoke/MethodHandle" ∧ yX3_act.cls ≠ "java/lang/invoke/VarHandle" ∧ (parseMethodDescriptor yX3_act.desc).map (fun d => d.parameters.length) = some 1 := by decide +kernel
theorem giX3_act : GoodIn gG wsX3_act := gG_in mG_166
def wsX0_hasAction : List Cond := .code yX0_hasAction prog_2_method_2_code 1 (some .boolean) :: gG
theorem pdX0_hasAction : yX0_hasAction.cls ≠ "java/lang/invoke/MethodHandle" ∧ yX0_hasAction.cls ≠ "java/lang/invoke/VarHandle" ∧ (parseMethodDescriptor yX0_hasAction.desc).map (fun d => d.parameters.length) = some 0 := by decide +kernel
theorem giX0_hasAction : GoodIn gG wsX0_hasAction := gG_in mG_168
def wsX0_takeAction : List Cond := .code yX0_takeAction prog_2_method_3_code 3 none :: gG
theorem pdX0_takeAction : yX0_takeAction.cls ≠ "java/lang/invoke/MethodHandle" ∧ yX0_takeAction.cls ≠ "java/lang/invoke/VarHandle" ∧ (parseMethodDescriptor yX0_takeAction.desc).map (fun d => d.parameters.length) = some 2 := by decide +kernel
theorem giX0_takeAction : GoodIn gG wsX0_takeAction := gG_in mG_170
def wsX3_drop : List Cond := .code yX3_drop prog_1_method_14_code 3 (some .int) :: gG
theorem pdX3_drop : yX3_drop.cls ≠ "java/lang/invoke/MethodHandle" ∧ yX3_drop.cls ≠ "java/lang/invoke/VarHandle" ∧ (parseMethodDescriptor yX3_drop.desc).map (fun d => d.parameters.length) = some 1 := by decide +kernel
theorem giX3_drop : GoodIn gG wsX3_drop := gG_in mG_177
def wsX3_actionFailure : List Cond := .code yX3_actionFailure prog_1_method_28_code 2 (some .int) :: gG
theorem pdX3_actionFailure : yX3_actionFailure.cls ≠ "java/lang/invoke/MethodHandle" ∧ yX3_actionFailure.cls ≠ "java/lang/invoke/VarHandle" ∧ (parseMethodDescriptor yX3_actionFailure.desc).map (fun d => d.parameters.length) = some 1 := by decide +kernel
theorem giX3_actionFailure : GoodIn gG wsX3_actionFailure := gG_in mG_180
def wsX3_arm : List Cond := .code yX3_arm prog_1_method_15_code 4 (some .int) :: gG
theorem pdX3_arm : yX3_arm.cls ≠ "java/lang/invoke/MethodHandle" ∧ yX3_arm.cls ≠ "java/lang/invoke/VarHandle" ∧ (parseMethodDescriptor yX3_arm.desc).map (fun d => d.parameters.length) = some 2 := by decide +kernel
theorem giX3_arm : GoodIn gG wsX3_arm := gG_in mG_184
def wsX3_limit : List Cond := .code yX3_limit prog_1_method_16_code 4 (some .int) :: gG
theorem pdX3_limit : yX3_limit.cls ≠ "java/lang/invoke/MethodHandle" ∧ yX3_limit.cls ≠ "java/lang/invoke/VarHandle" ∧ (parseMethodDescriptor yX3_limit.desc).map (fun d => d.parameters.length) = some 2 := by decide +kernel
theorem giX3_limit : GoodIn gG wsX3_limit := gG_in mG_188
def wsX1_tellOf : List Cond := .code yX1_tellOf prog_3_method_5_code 2 (some .int) :: gG
theorem pdX1_tellOf : yX1_tellOf.cls ≠ "java/lang/invoke/MethodHandle" ∧ yX1_tellOf.cls ≠ "java/lang/invoke/VarHandle" ∧ (parseMethodDescriptor yX1_tellOf.desc).map (fun d => d.parameters.length) = some 1 := by decide +kernel
theorem giX1_tellOf : GoodIn gG wsX1_tellOf := gG_in mG_190
def wsX3_oneIf : List Cond := .code yX3_oneIf prog_1_method_23_code 1 (some .int) :: gG
theorem pdX3_oneIf : yX3_oneIf.cls ≠ "java/lang/invoke/MethodHandle" ∧ yX3_oneIf.cls ≠ "java/lang/invoke/VarHandle" ∧ (parseMethodDescriptor yX3_oneIf.desc).map (fun d => d.parameters.length) = some 1 := by decide +kernel
theorem giX3_oneIf : GoodIn gG wsX3_oneIf := gG_in mG_192
def wsX3_event : List Cond := .code yX3_event prog_1_method_17_code 3 (some .int) :: gG
theorem pdX3_event : yX3_event.cls ≠ "java/lang/invoke/MethodHandle" ∧ yX3_event.cls ≠ "java/lang/invoke/VarHandle" ∧ (parseMethodDescriptor yX3_event.desc).map (fun d => d.parameters.length) = some 2 := by decide +kernel
theorem giX3_event : GoodIn gG wsX3_event := gG_in mG_196
def wsX0_tellOf : List Cond := .code yX0_tellOf prog_2_method_5_code 2 (some .int) :: gG
theorem pdX0_tellOf : yX0_tellOf.cls ≠ "java/lang/invoke/MethodHandle" ∧ yX0_tellOf.cls ≠ "java/lang/invoke/VarHandle" ∧ (parseMethodDescriptor yX0_tellOf.desc).map (fun d => d.parameters.length) = some 1 := by decide +kernel
theorem giX0_tellOf : GoodIn gG wsX0_tellOf := gG_in mG_198
def wsX3_actionAt : List Cond := .code yX3_actionAt prog_1_method_18_code 3 (some .int) :: gG
theorem pdX3_actionAt : yX3_actionAt.cls ≠ "java/lang/invoke/MethodHandle" ∧ yX3_actionAt.cls ≠ "java/lang/invoke/VarHandle" ∧ (parseMethodDescriptor yX3_actionAt.desc).map (fun d => d.parameters.length) = some 2 := by decide +kernel
theorem giX3_actionAt : GoodIn gG wsX3_actionAt := gG_in mG_202
def wsX0_byteAt : List Cond := .code yX0_byteAt prog_2_method_4_code 2 (some .int) :: gG
theorem pdX0_byteAt : yX0_byteAt.cls ≠ "java/lang/invoke/MethodHandle" ∧ yX0_byteAt.cls ≠ "java/lang/invoke/VarHandle" ∧ (parseMethodDescriptor yX0_byteAt.desc).map (fun d => d.parameters.length) = some 1 := by decide +kernel
theorem giX0_byteAt : GoodIn gG wsX0_byteAt := gG_in mG_204
def wsX3_count : List Cond := .code yX3_count prog_1_method_19_code 2 (some .int) :: gG
theorem pdX3_count : yX3_count.cls ≠ "java/lang/invoke/MethodHandle" ∧ yX3_count.cls ≠ "java/lang/invoke/VarHandle" ∧ (parseMethodDescriptor yX3_count.desc).map (fun d => d.parameters.length) = some 1 := by decide +kernel
theorem giX3_count : GoodIn gG wsX3_count := gG_in mG_208
def wsX4_init : List Cond := .code yX4_init prog_6_method_1_code 1 none :: gG
theorem pdX4_init : yX4_init.cls ≠ "java/lang/invoke/MethodHandle" ∧ yX4_init.cls ≠ "java/lang/invoke/VarHandle" ∧ (parseMethodDescriptor yX4_init.desc).map (fun d => d.parameters.length) = some 0 := by decide +kernel
theorem giX4_init : GoodIn gG wsX4_init := gG_in mG_213
def wsX4_set : List Cond := .code yX4_set prog_6_method_3_code 3 (some .boolean) :: gG
theorem pdX4_set : yX4_set.cls ≠ "java/lang/invoke/MethodHandle" ∧ yX4_set.cls ≠ "java/lang/invoke/VarHandle" ∧ (parseMethodDescriptor yX4_set.desc).map (fun d => d.parameters.length) = some 2 := by decide +kernel
theorem giX4_set : GoodIn gG wsX4_set := gG_in mG_243
def wsX4_add : List Cond := .code yX4_add prog_6_method_7_code 8 (some .int) :: gG
theorem pdX4_add : yX4_add.cls ≠ "java/lang/invoke/MethodHandle" ∧ yX4_add.cls ≠ "java/lang/invoke/VarHandle" ∧ (parseMethodDescriptor yX4_add.desc).map (fun d => d.parameters.length) = some 7 := by decide +kernel
theorem giX4_add : GoodIn gG wsX4_add := gG_in mG_247
def wsX4_isIn : List Cond := .code yX4_isIn prog_6_method_6_code 3 (some .boolean) :: gG
theorem pdX4_isIn : yX4_isIn.cls ≠ "java/lang/invoke/MethodHandle" ∧ yX4_isIn.cls ≠ "java/lang/invoke/VarHandle" ∧ (parseMethodDescriptor yX4_isIn.desc).map (fun d => d.parameters.length) = some 3 := by decide +kernel
theorem giX4_isIn : GoodIn gG wsX4_isIn := gG_in mG_250
def wsX4_limits : List Cond := .code yX4_limits prog_6_method_5_code 3 (some .int) :: gG
theorem pdX4_limits : yX4_limits.cls ≠ "java/lang/invoke/MethodHandle" ∧ yX4_limits.cls ≠ "java/lang/invoke/VarHandle" ∧ (parseMethodDescriptor yX4_limits.desc).map (fun d => d.parameters.length) = some 0 := by decide +kernel
theorem giX4_limits : GoodIn gG wsX4_limits := gG_in mG_253
def wsX4_remove : List Cond := .code yX4_remove prog_6_method_8_code 2 (some .int) :: gG
theorem pdX4_remove : yX4_remove.cls ≠ "java/lang/invoke/MethodHandle" ∧ yX4_remove.cls ≠ "java/lang/invoke/VarHandle" ∧ (parseMethodDescriptor yX4_remove.desc).map (fun d => d.parameters.length) = some 1 := by decide +kernel
theorem giX4_remove : GoodIn gG wsX4_remove := gG_in mG_257
def wsX4_isThere : List Cond := .code yX4_isThere prog_6_method_4_code 2 (some .boolean) :: gG
theorem pdX4_isThere : yX4_isThere.cls ≠ "java/lang/invoke/MethodHandle" ∧ yX4_isThere.cls ≠ "java/lang/invoke/VarHandle" ∧ (parseMethodDescriptor yX4_isThere.desc).map (fun d => d.parameters.length) = some 1 := by decide +kernel
theorem giX4_isThere : GoodIn gG wsX4_isThere := gG_in mG_260
def wsX4_enable : List Cond := .code yX4_enable prog_6_method_9_code 3 (some .int) :: gG
theorem pdX4_enable : yX4_enable.cls ≠ "java/lang/invoke/MethodHandle" ∧ yX4_enable.cls ≠ "java/lang/invoke/VarHandle" ∧ (parseMethodDescriptor yX4_enable.desc).map (fun d => d.parameters.length) = some 2 := by decide +kernel
theorem giX4_enable : GoodIn gG wsX4_enable := gG_in mG_264
def wsX4_watch : List Cond := .code yX4_watch prog_6_method_11_code 5 (some .int) :: gG
theorem pdX4_watch : yX4_watch.cls ≠ "java/lang/invoke/MethodHandle" ∧ yX4_watch.cls ≠ "java/lang/invoke/VarHandle" ∧ (parseMethodDescriptor yX4_watch.desc).map (fun d => d.parameters.length) = some 0 := by decide +kernel
theorem giX4_watch : GoodIn gG wsX4_watch := gG_in mG_268
def wsX4_waits : List Cond := .code yX4_waits prog_6_method_10_code 3 (some .boolean) :: gG
theorem pdX4_waits : yX4_waits.cls ≠ "java/lang/invoke/MethodHandle" ∧ yX4_waits.cls ≠ "java/lang/invoke/VarHandle" ∧ (parseMethodDescriptor yX4_waits.desc).map (fun d => d.parameters.length) = some 2 := by decide +kernel
theorem giX4_waits : GoodIn gG wsX4_waits := gG_in mG_271
def wsX4_linked : List Cond := .code yX4_linked prog_6_method_12_code 1 (some .boolean) :: gG
theorem pdX4_linked : yX4_linked.cls ≠ "java/lang/invoke/MethodHandle" ∧ yX4_linked.cls ≠ "java/lang/invoke/VarHandle" ∧ (parseMethodDescriptor yX4_linked.desc).map (fun d => d.parameters.length) = some 0 := by decide +kernel
theorem giX4_linked : GoodIn gG wsX4_linked := gG_in mG_275
def wsX4_raise : List Cond := .code yX4_raise prog_6_method_14_code 3 (some .boolean) :: gG
theorem pdX4_raise : yX4_raise.cls ≠ "java/lang/invoke/MethodHandle" ∧ yX4_raise.cls ≠ "java/lang/invoke/VarHandle" ∧ (parseMethodDescriptor yX4_raise.desc).map (fun d => d.parameters.length) = some 2 := by decide +kernel
theorem giX4_raise : GoodIn gG wsX4_raise := gG_in mG_279
def wsX4_isEvent : List Cond := .code yX4_isEvent prog_6_method_13_code 1 (some .boolean) :: gG
theorem pdX4_isEvent : yX4_isEvent.cls ≠ "java/lang/invoke/MethodHandle" ∧ yX4_isEvent.cls ≠ "java/lang/invoke/VarHandle" ∧ (parseMethodDescriptor yX4_isEvent.desc).map (fun d => d.parameters.length) = some 1 := by decide +kernel
theorem giX4_isEvent : GoodIn gG wsX4_isEvent := gG_in mG_282
def wsX4_work : List Cond := .code yX4_work prog_6_method_15_code 3 (some .int) :: gG
theorem pdX4_work : yX4_work.cls ≠ "java/lang/invoke/MethodHandle" ∧ yX4_work.cls ≠ "java/lang/invoke/VarHandle" ∧ (parseMethodDescriptor yX4_work.desc).map (fun d => d.parameters.length) = some 0 := by decide +kernel
theorem giX4_work : GoodIn gG wsX4_work := gG_in mG_286
def wsX4_lose : List Cond := .code yX4_lose prog_6_method_16_code 2 (some .int) :: gG
theorem pdX4_lose : yX4_lose.cls ≠ "java/lang/invoke/MethodHandle" ∧ yX4_lose.cls ≠ "java/lang/invoke/VarHandle" ∧ (parseMethodDescriptor yX4_lose.desc).map (fun d => d.parameters.length) = some 0 := by decide +kernel
theorem giX4_lose : GoodIn gG wsX4_lose := gG_in mG_290
def wsX4_tell : List Cond := .code yX4_tell prog_6_method_17_code 3 (some .int) :: gG
theorem pdX4_tell : yX4_tell.cls ≠ "java/lang/invoke/MethodHandle" ∧ yX4_tell.cls ≠ "java/lang/invoke/VarHandle" ∧ (parseMethodDescriptor yX4_tell.desc).map (fun d => d.parameters.length) = some 2 := by decide +kernel
theorem giX4_tell : GoodIn gG wsX4_tell := gG_in mG_294
def wsX4_put : List Cond := .code yX4_put prog_6_method_18_code 2 (some .int) :: gG
theorem pdX4_put : yX4_put.cls ≠ "java/lang/invoke/MethodHandle" ∧ yX4_put.cls ≠ "java/lang/invoke/VarHandle" ∧ (parseMethodDescriptor yX4_put.desc).map (fun d => d.parameters.length) = some 1 := by decide +kernel
theorem giX4_put : GoodIn gG wsX4_put := gG_in mG_298
def wsX4_act : List Cond := .code yX4_act prog_6_method_19_code 4 (some .int) :: gG
theorem pdX4_act : yX4_act.cls ≠ "java/lang/invoke/MethodHandle" ∧ yX4_act.cls ≠ "java/lang/invoke/VarHandle" ∧ (parseMethodDescriptor yX4_act.desc).map (fun d => d.parameters.length) = some 1 := by decide +kernel
theorem giX4_act : GoodIn gG wsX4_act := gG_in mG_302
def wsX4_drop : List Cond := .code yX4_drop prog_6_method_20_code 2 (some .int) :: gG
theorem pdX4_drop : yX4_drop.cls ≠ "java/lang/invoke/MethodHandle" ∧ yX4_drop.cls ≠ "java/lang/invoke/VarHandle" ∧ (parseMethodDescriptor yX4_drop.desc).map (fun d => d.parameters.length) = some 1 := by decide +kernel
theorem giX4_drop : GoodIn gG wsX4_drop := gG_in mG_306
def wsX4_arm : List Cond := .code yX4_arm prog_6_method_21_code 3 (some .int) :: gG
theorem pdX4_arm : yX4_arm.cls ≠ "java/lang/invoke/MethodHandle" ∧ yX4_arm.cls ≠ "java/lang/invoke/VarHandle" ∧ (parseMethodDescriptor yX4_arm.desc).map (fun d => d.parameters.length) = some 2 := by decide +kernel
theorem giX4_arm : GoodIn gG wsX4_arm := gG_in mG_310
def wsX4_limit : List Cond := .code yX4_limit prog_6_method_22_code 3 (some .int) :: gG
theorem pdX4_limit : yX4_limit.cls ≠ "java/lang/invoke/MethodHandle" ∧ yX4_limit.cls ≠ "java/lang/invoke/VarHandle" ∧ (parseMethodDescriptor yX4_limit.desc).map (fun d => d.parameters.length) = some 2 := by decide +kernel
theorem giX4_limit : GoodIn gG wsX4_limit := gG_in mG_314
def wsX4_event : List Cond := .code yX4_event prog_6_method_23_code 3 (some .int) :: gG
theorem pdX4_event : yX4_event.cls ≠ "java/lang/invoke/MethodHandle" ∧ yX4_event.cls ≠ "java/lang/invoke/VarHandle" ∧ (parseMethodDescriptor yX4_event.desc).map (fun d => d.parameters.length) = some 2 := by decide +kernel
theorem giX4_event : GoodIn gG wsX4_event := gG_in mG_318
def wsX4_actionAt : List Cond := .code yX4_actionAt prog_6_method_24_code 3 (some .int) :: gG
theorem pdX4_actionAt : yX4_actionAt.cls ≠ "java/lang/invoke/MethodHandle" ∧ yX4_actionAt.cls ≠ "java/lang/invoke/VarHandle" ∧ (parseMethodDescriptor yX4_actionAt.desc).map (fun d => d.parameters.length) = some 2 := by decide +kernel
theorem giX4_actionAt : GoodIn gG wsX4_actionAt := gG_in mG_322
def wsX4_count : List Cond := .code yX4_count prog_6_method_25_code 2 (some .int) :: gG
theorem pdX4_count : yX4_count.cls ≠ "java/lang/invoke/MethodHandle" ∧ yX4_count.cls ≠ "java/lang/invoke/VarHandle" ∧ (parseMethodDescriptor yX4_count.desc).map (fun d => d.parameters.length) = some 1 := by decide +kernel
theorem giX4_count : GoodIn gG wsX4_count := gG_in mG_326
