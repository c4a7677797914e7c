theorem tG_0 : (.selects "WatchList" yX3_placeOf yX3_placeOf : Cond) ∈ lw_tbl := List.mem_append_left _ (List.mem_of_getElem? (i := 0) rfl)
theorem tG_1 : (.selects "WatchList" yX3_openPlaceFor yX3_openPlaceFor : Cond) ∈ lw_tbl := List.mem_append_left _ (List.mem_of_getElem? (i := 1) rfl)
theorem tG_2 : (.selects "WatchList$Limit" yX1_begin yX1_begin : Cond) ∈ lw_tbl := List.mem_append_left _ (List.mem_of_getElem? (i := 2) rfl)
theorem tG_3 : (.selects "WatchList$Limit" yX1_turn yX1_turn : Cond) ∈ lw_tbl := List.mem_append_left _ (List.mem_of_getElem? (i := 3) rfl)
theorem tG_4 : (.selects "WatchList" yX3_closePlace yX3_closePlace : Cond) ∈ lw_tbl := List.mem_append_left _ (List.mem_of_getElem? (i := 4) rfl)
theorem tG_5 : (.selects "WatchList$Limit" yX1_breaksAt yX1_breaksAt : Cond) ∈ lw_tbl := List.mem_append_left _ (List.mem_of_getElem? (i := 5) rfl)
theorem tG_6 : (.selects "WatchList" yX3_waitOrLose yX3_waitOrLose : Cond) ∈ lw_tbl := List.mem_append_left _ (List.mem_of_getElem? (i := 6) rfl)
theorem tG_7 : (.selects "WatchList$Queue" yX2_append yX2_append : Cond) ∈ lw_tbl := List.mem_append_left _ (List.mem_of_getElem? (i := 7) rfl)
theorem tG_8 : (.selects "WatchList$Queue" yX2_firstEvent yX2_firstEvent : Cond) ∈ lw_tbl := List.mem_append_left _ (List.mem_of_getElem? (i := 8) rfl)
theorem tG_9 : (.selects "WatchList$Queue" yX2_firstNumber yX2_firstNumber : Cond) ∈ lw_tbl := List.mem_append_left _ (List.mem_of_getElem? (i := 9) rfl)
theorem tG_10 : (.selects "WatchList$Queue" yX2_takeFirst yX2_takeFirst : Cond) ∈ lw_tbl := List.mem_append_left _ (List.mem_of_getElem? (i := 10) rfl)
theorem tG_11 : (.selects "WatchList$Queue" yX2_empty yX2_empty : Cond) ∈ lw_tbl := List.mem_append_left _ (List.mem_of_getElem? (i := 11) rfl)
theorem tG_12 : (.selects "WatchList$Event" yX0_hasAction yX0_hasAction : Cond) ∈ lw_tbl := List.mem_append_left _ (List.mem_of_getElem? (i := 12) rfl)
theorem tG_13 : (.selects "WatchList$Event" yX0_takeAction yX0_takeAction : Cond) ∈ lw_tbl := List.mem_append_left _ (List.mem_of_getElem? (i := 13) rfl)
theorem tG_14 : (.selects "WatchList" yX3_actionFailure yX3_actionFailure : Cond) ∈ lw_tbl := List.mem_append_left _ (List.mem_of_getElem? (i := 14) rfl)
theorem tG_15 : (.selects "WatchList$Limit" yX1_tellOf yX1_tellOf : Cond) ∈ lw_tbl := List.mem_append_left _ (List.mem_of_getElem? (i := 15) rfl)
theorem tG_16 : (.selects "WatchList$Event" yX0_tellOf yX0_tellOf : Cond) ∈ lw_tbl := List.mem_append_left _ (List.mem_of_getElem? (i := 16) rfl)
theorem tG_17 : (.selects "WatchList$Event" yX0_byteAt yX0_byteAt : Cond) ∈ lw_tbl := List.mem_append_left _ (List.mem_of_getElem? (i := 17) rfl)
theorem tG_18 : (.selects "WatchListModel" yX4_limits yX4_limits : Cond) ∈ lw_tbl := List.mem_append_left _ (List.mem_of_getElem? (i := 18) rfl)
theorem tG_19 : (.selects "WatchListModel" yX4_isThere yX4_isThere : Cond) ∈ lw_tbl := List.mem_append_left _ (List.mem_of_getElem? (i := 19) rfl)
theorem tG_20 : (.selects "WatchListModel" yX4_waits yX4_waits : Cond) ∈ lw_tbl := List.mem_append_left _ (List.mem_of_getElem? (i := 20) rfl)
theorem tG_21 : (.initialized "WatchListLaw" : Cond) ∈ lw_tbl := List.mem_append_right _ (List.mem_append_left _ (List.mem_of_getElem? (i := 0) rfl))
theorem tG_22 : (.initialized "WatchList" : Cond) ∈ lw_tbl := List.mem_append_right _ (List.mem_append_left _ (List.mem_of_getElem? (i := 1) rfl))
theorem tG_23 : (.initialized "WatchList$Queue" : Cond) ∈ lw_tbl := List.mem_append_right _ (List.mem_append_left _ (List.mem_of_getElem? (i := 2) rfl))
theorem tG_24 : (.initialized "WatchList$Limit" : Cond) ∈ lw_tbl := List.mem_append_right _ (List.mem_append_left _ (List.mem_of_getElem? (i := 3) rfl))
theorem tG_25 : (.initialized "WatchList$Event" : Cond) ∈ lw_tbl := List.mem_append_right _ (List.mem_append_left _ (List.mem_of_getElem? (i := 4) rfl))
theorem tG_26 : (.initialized "WatchListModel" : Cond) ∈ lw_tbl := List.mem_append_right _ (List.mem_append_left _ (List.mem_of_getElem? (i := 5) rfl))
theorem tG_27 : (.initialized "java/lang/System" : Cond) ∈ lw_tbl := List.mem_append_right _ (List.mem_append_left _ (List.mem_of_getElem? (i := 6) rfl))
theorem tG_28 : (.classLink "WatchListLaw" 7 "WatchList" : Cond) ∈ lw_tbl := List.mem_append_right _ (List.mem_append_left _ (List.mem_of_getElem? (i := 7) rfl))
theorem tG_29 : (.instantiable "WatchList" 11 : Cond) ∈ lw_tbl := List.mem_append_right _ (List.mem_append_left _ (List.mem_of_getElem? (i := 8) rfl))
theorem tG_30 : (.methodLink "WatchListLaw" 9 yX3_init : Cond) ∈ lw_tbl := List.mem_append_right _ (List.mem_append_left _ (List.mem_of_getElem? (i := 9) rfl))
theorem tG_31 : (.instanceMethod yX3_init : Cond) ∈ lw_tbl := List.mem_append_right _ (List.mem_append_left _ (List.mem_of_getElem? (i := 10) rfl))
theorem tG_32 : (.code yX3_init prog_1_method_1_code 2 none : Cond) ∈ lw_tbl := List.mem_append_right _ (List.mem_append_left _ (List.mem_of_getElem? (i := 11) rfl))
theorem tG_33 : (.methodLink "WatchList" 1 objectInit : Cond) ∈ lw_tbl := List.mem_append_right _ (List.mem_append_left _ (List.mem_of_getElem? (i := 12) rfl))
theorem tG_34 : (.instanceMethod objectInit : Cond) ∈ lw_tbl := List.mem_append_right _ (List.mem_append_left _ (List.mem_of_getElem? (i := 13) rfl))
theorem tG_35 : (.code objectInit object_method_1_code 1 none : Cond) ∈ lw_tbl := List.mem_append_right _ (List.mem_append_left _ (List.mem_of_getElem? (i := 14) rfl))
theorem tG_36 : (.classLink "WatchList" 13 "WatchList$Limit" : Cond) ∈ lw_tbl := List.mem_append_right _ (List.mem_append_left _ (List.mem_of_getElem? (i := 15) rfl))
theorem tG_37 : (.classLink "WatchList" 19 "WatchList$Event" : Cond) ∈ lw_tbl := List.mem_append_right _ (List.mem_append_left _ (List.mem_of_getElem? (i := 17) rfl))
theorem tG_38 : (.classLink "WatchList" 25 "WatchList$Queue" : Cond) ∈ lw_tbl := List.mem_append_right _ (List.mem_append_left _ (List.mem_of_getElem? (i := 19) rfl))
theorem tG_39 : (.instantiable "WatchList$Queue" 4 : Cond) ∈ lw_tbl := List.mem_append_right _ (List.mem_append_left _ (List.mem_of_getElem? (i := 20) rfl))
theorem tG_40 : (.instanceMethod yX2_init : Cond) ∈ lw_tbl := List.mem_append_right _ (List.mem_append_left _ (List.mem_of_getElem? (i := 22) rfl))
theorem tG_41 : (.code yX2_init prog_4_method_1_code 1 none : Cond) ∈ lw_tbl := List.mem_append_right _ (List.mem_append_left _ (List.mem_of_getElem? (i := 23) rfl))
theorem tG_42 : (.methodLink "WatchList$Queue" 3 objectInit : Cond) ∈ lw_tbl := List.mem_append_right _ (List.mem_append_left _ (List.mem_of_getElem? (i := 24) rfl))
theorem tG_43 : (.fieldLink "WatchList$Queue" 9 "WatchList$Queue" "events" "[I" : Cond) ∈ lw_tbl := List.mem_append_right _ (List.mem_append_left _ (List.mem_of_getElem? (i := 25) rfl))
theorem tG_44 : (.fieldLink "WatchList$Queue" 15 "WatchList$Queue" "numbers" "[I" : Cond) ∈ lw_tbl := List.mem_append_right _ (List.mem_append_left _ (List.mem_of_getElem? (i := 26) rfl))
theorem tG_45 : (.fieldLink "WatchList$Queue" 18 "WatchList$Queue" "first" "I" : Cond) ∈ lw_tbl := List.mem_append_right _ (List.mem_append_left _ (List.mem_of_getElem? (i := 27) rfl))
theorem tG_46 : (.fieldLink "WatchList$Queue" 22 "WatchList$Queue" "size" "I" : Cond) ∈ lw_tbl := List.mem_append_right _ (List.mem_append_left _ (List.mem_of_getElem? (i := 28) rfl))
theorem tG_47 : (.arrayClass .int : Cond) ∈ lw_tbl := List.mem_append_right _ (List.mem_append_left _ (List.mem_of_getElem? (i := 39) rfl))
theorem tG_48 : (.instantiable "WatchList$Limit" 9 : Cond) ∈ lw_tbl := List.mem_append_right _ (List.mem_append_left _ (List.mem_of_getElem? (i := 40) rfl))
theorem tG_49 : (.instanceMethod yX1_init : Cond) ∈ lw_tbl := List.mem_append_right _ (List.mem_append_left _ (List.mem_of_getElem? (i := 42) rfl))
theorem tG_50 : (.code yX1_init prog_3_method_1_code 1 none : Cond) ∈ lw_tbl := List.mem_append_right _ (List.mem_append_left _ (List.mem_of_getElem? (i := 43) rfl))
theorem tG_51 : (.methodLink "WatchList$Limit" 3 objectInit : Cond) ∈ lw_tbl := List.mem_append_right _ (List.mem_append_left _ (List.mem_of_getElem? (i := 44) rfl))
theorem tG_52 : (.fieldLink "WatchList$Limit" 9 "WatchList$Limit" "id" "I" : Cond) ∈ lw_tbl := List.mem_append_right _ (List.mem_append_left _ (List.mem_of_getElem? (i := 45) rfl))
theorem tG_53 : (.fieldLink "WatchList$Limit" 15 "WatchList$Limit" "parameter" "I" : Cond) ∈ lw_tbl := List.mem_append_right _ (List.mem_append_left _ (List.mem_of_getElem? (i := 47) rfl))
theorem tG_54 : (.fieldLink "WatchList$Limit" 18 "WatchList$Limit" "times" "I" : Cond) ∈ lw_tbl := List.mem_append_right _ (List.mem_append_left _ (List.mem_of_getElem? (i := 49) rfl))
theorem tG_55 : (.fieldLink "WatchList$Limit" 21 "WatchList$Limit" "low" "I" : Cond) ∈ lw_tbl := List.mem_append_right _ (List.mem_append_left _ (List.mem_of_getElem? (i := 50) rfl))
theorem tG_56 : (.fieldLink "WatchList$Limit" 24 "WatchList$Limit" "high" "I" : Cond) ∈ lw_tbl := List.mem_append_right _ (List.mem_append_left _ (List.mem_of_getElem? (i := 51) rfl))
theorem tG_57 : (.fieldLink "WatchList$Limit" 27 "WatchList$Limit" "event" "I" : Cond) ∈ lw_tbl := List.mem_append_right _ (List.mem_append_left _ (List.mem_of_getElem? (i := 52) rfl))
theorem tG_58 : (.fieldLink "WatchList$Limit" 30 "WatchList$Limit" "linked" "Z" : Cond) ∈ lw_tbl := List.mem_append_right _ (List.mem_append_left _ (List.mem_of_getElem? (i := 54) rfl))
theorem tG_59 : (.fieldLink "WatchList$Limit" 38 "WatchList$Limit" "on" "Z" : Cond) ∈ lw_tbl := List.mem_append_right _ (List.mem_append_left _ (List.mem_of_getElem? (i := 56) rfl))
theorem tG_60 : (.fieldLink "WatchList$Limit" 41 "WatchList$Limit" "outside" "I" : Cond) ∈ lw_tbl := List.mem_append_right _ (List.mem_append_left _ (List.mem_of_getElem? (i := 58) rfl))
theorem tG_61 : (.arrayClass .byte : Cond) ∈ lw_tbl := List.mem_append_right _ (List.mem_append_left _ (List.mem_of_getElem? (i := 78) rfl))
theorem tG_62 : (.instantiable "WatchList$Event" 4 : Cond) ∈ lw_tbl := List.mem_append_right _ (List.mem_append_left _ (List.mem_of_getElem? (i := 79) rfl))
theorem tG_63 : (.instanceMethod yX0_init : Cond) ∈ lw_tbl := List.mem_append_right _ (List.mem_append_left _ (List.mem_of_getElem? (i := 81) rfl))
theorem tG_64 : (.code yX0_init prog_2_method_1_code 1 none : Cond) ∈ lw_tbl := List.mem_append_right _ (List.mem_append_left _ (List.mem_of_getElem? (i := 82) rfl))
theorem tG_65 : (.methodLink "WatchList$Event" 3 objectInit : Cond) ∈ lw_tbl := List.mem_append_right _ (List.mem_append_left _ (List.mem_of_getElem? (i := 83) rfl))
theorem tG_66 : (.fieldLink "WatchList$Event" 9 "WatchList$Event" "told" "Z" : Cond) ∈ lw_tbl := List.mem_append_right _ (List.mem_append_left _ (List.mem_of_getElem? (i := 84) rfl))
theorem tG_67 : (.fieldLink "WatchList$Event" 15 "WatchList$Event" "action" "[B" : Cond) ∈ lw_tbl := List.mem_append_right _ (List.mem_append_left _ (List.mem_of_getElem? (i := 86) rfl))
theorem tG_68 : (.fieldLink "WatchList$Event" 19 "WatchList$Event" "actionSize" "I" : Cond) ∈ lw_tbl := List.mem_append_right _ (List.mem_append_left _ (List.mem_of_getElem? (i := 87) rfl))
theorem tG_69 : (.fieldLink "WatchList$Event" 29 "WatchList$Event" "actionOn" "Z" : Cond) ∈ lw_tbl := List.mem_append_right _ (List.mem_append_left _ (List.mem_of_getElem? (i := 89) rfl))
theorem tG_70 : (.fieldLink "WatchList" 9 "WatchList" "parameters" "[I" : Cond) ∈ lw_tbl := List.mem_append_right _ (List.mem_append_left _ (List.mem_of_getElem? (i := 100) rfl))
theorem tG_71 : (.fieldLink "WatchList" 15 "WatchList" "limits" "[LWatchList$Limit;" : Cond) ∈ lw_tbl := List.mem_append_right _ (List.mem_append_left _ (List.mem_of_getElem? (i := 101) rfl))
theorem tG_72 : (.fieldLink "WatchList" 52 "WatchList" "limitCount" "I" : Cond) ∈ lw_tbl := List.mem_append_right _ (List.mem_append_left _ (List.mem_of_getElem? (i := 102) rfl))
theorem tG_73 : (.fieldLink "WatchList" 95 "WatchList" "brokenSoFar" "I" : Cond) ∈ lw_tbl := List.mem_append_right _ (List.mem_append_left _ (List.mem_of_getElem? (i := 103) rfl))
theorem tG_74 : (.fieldLink "WatchList" 76 "WatchList" "linkedBroken" "Z" : Cond) ∈ lw_tbl := List.mem_append_right _ (List.mem_append_left _ (List.mem_of_getElem? (i := 104) rfl))
theorem tG_75 : (.fieldLink "WatchList" 21 "WatchList" "events" "[LWatchList$Event;" : Cond) ∈ lw_tbl := List.mem_append_right _ (List.mem_append_left _ (List.mem_of_getElem? (i := 105) rfl))
theorem tG_76 : (.fieldLink "WatchList" 28 "WatchList" "waiting" "LWatchList$Queue;" : Cond) ∈ lw_tbl := List.mem_append_right _ (List.mem_append_left _ (List.mem_of_getElem? (i := 106) rfl))
theorem tG_77 : (.fieldLink "WatchList" 117 "WatchList" "lostSoFar" "I" : Cond) ∈ lw_tbl := List.mem_append_right _ (List.mem_append_left _ (List.mem_of_getElem? (i := 107) rfl))
theorem tG_78 : (.fieldLink "WatchList" 108 "WatchList" "workedNumber" "I" : Cond) ∈ lw_tbl := List.mem_append_right _ (List.mem_append_left _ (List.mem_of_getElem? (i := 108) rfl))
theorem tG_79 : (.fieldLink "WatchList" 32 "WatchList" "text" "[B" : Cond) ∈ lw_tbl := List.mem_append_right _ (List.mem_append_left _ (List.mem_of_getElem? (i := 109) rfl))
theorem tG_80 : (.fieldLink "WatchList" 123 "WatchList" "textSize" "I" : Cond) ∈ lw_tbl := List.mem_append_right _ (List.mem_append_left _ (List.mem_of_getElem? (i := 110) rfl))
theorem tG_81 : (.methodLink "WatchListLaw" 13 yX3_set : Cond) ∈ lw_tbl := List.mem_append_right _ (List.mem_append_left _ (List.mem_of_getElem? (i := 134) rfl))
theorem tG_82 : (.instanceMethod yX3_set : Cond) ∈ lw_tbl := List.mem_append_right _ (List.mem_append_left _ (List.mem_of_getElem? (i := 135) rfl))
theorem tG_83 : (.selects "WatchList" yX3_set yX3_set : Cond) ∈ lw_tbl := List.mem_append_right _ (List.mem_append_left _ (List.mem_of_getElem? (i := 136) rfl))
theorem tG_84 : (.code yX3_set prog_1_method_2_code 3 (some .boolean) : Cond) ∈ lw_tbl := List.mem_append_right _ (List.mem_append_left _ (List.mem_of_getElem? (i := 137) rfl))
theorem tG_85 : (.methodLink "WatchList" 38 yX3_isParameter : Cond) ∈ lw_tbl := List.mem_append_right _ (List.mem_append_left _ (List.mem_of_getElem? (i := 138) rfl))
theorem tG_86 : (.static yX3_isParameter : Cond) ∈ lw_tbl := List.mem_append_right _ (List.mem_append_left _ (List.mem_of_getElem? (i := 139) rfl))
theorem tG_87 : (.code yX3_isParameter prog_1_method_20_code 1 (some .boolean) : Cond) ∈ lw_tbl := List.mem_append_right _ (List.mem_append_left _ (List.mem_of_getElem? (i := 140) rfl))
theorem tG_88 : (.methodLink "WatchListLaw" 18 yX3_add : Cond) ∈ lw_tbl := List.mem_append_right _ (List.mem_append_left _ (List.mem_of_getElem? (i := 141) rfl))
theorem tG_89 : (.instanceMethod yX3_add : Cond) ∈ lw_tbl := List.mem_append_right _ (List.mem_append_left _ (List.mem_of_getElem? (i := 142) rfl))
theorem tG_90 : (.selects "WatchList" yX3_add yX3_add : Cond) ∈ lw_tbl := List.mem_append_right _ (List.mem_append_left _ (List.mem_of_getElem? (i := 143) rfl))
theorem tG_91 : (.code yX3_add prog_1_method_3_code 10 (some .int) : Cond) ∈ lw_tbl := List.mem_append_right _ (List.mem_append_left _ (List.mem_of_getElem? (i := 144) rfl))
theorem tG_92 : (.methodLink "WatchList" 42 yX3_isId : Cond) ∈ lw_tbl := List.mem_append_right _ (List.mem_append_left _ (List.mem_of_getElem? (i := 145) rfl))
theorem tG_93 : (.static yX3_isId : Cond) ∈ lw_tbl := List.mem_append_right _ (List.mem_append_left _ (List.mem_of_getElem? (i := 146) rfl))
theorem tG_94 : (.code yX3_isId prog_1_method_21_code 1 (some .boolean) : Cond) ∈ lw_tbl := List.mem_append_right _ (List.mem_append_left _ (List.mem_of_getElem? (i := 147) rfl))
theorem tG_95 : (.methodLink "WatchList" 45 yX3_isEvent : Cond) ∈ lw_tbl := List.mem_append_right _ (List.mem_append_left _ (List.mem_of_getElem? (i := 148) rfl))
theorem tG_96 : (.static yX3_isEvent : Cond) ∈ lw_tbl := List.mem_append_right _ (List.mem_append_left _ (List.mem_of_getElem? (i := 149) rfl))
theorem tG_97 : (.code yX3_isEvent prog_1_method_22_code 1 (some .boolean) : Cond) ∈ lw_tbl := List.mem_append_right _ (List.mem_append_left _ (List.mem_of_getElem? (i := 150) rfl))
theorem tG_98 : (.methodLink "WatchList" 48 yX3_placeOf : Cond) ∈ lw_tbl := List.mem_append_right _ (List.mem_append_left _ (List.mem_of_getElem? (i := 151) rfl))
theorem tG_99 : (.instanceMethod yX3_placeOf : Cond) ∈ lw_tbl := List.mem_append_right _ (List.mem_append_left _ (List.mem_of_getElem? (i := 153) rfl))
theorem tG_100 : (.code yX3_placeOf prog_1_method_24_code 3 (some .int) : Cond) ∈ lw_tbl := List.mem_append_right _ (List.mem_append_left _ (List.mem_of_getElem? (i := 154) rfl))
theorem tG_101 : (.methodLink "WatchList" 56 yX3_openPlaceFor : Cond) ∈ lw_tbl := List.mem_append_right _ (List.mem_append_left _ (List.mem_of_getElem? (i := 155) rfl))
theorem tG_102 : (.instanceMethod yX3_openPlaceFor : Cond) ∈ lw_tbl := List.mem_append_right _ (List.mem_append_left _ (List.mem_of_getElem? (i := 157) rfl))
theorem tG_103 : (.code yX3_openPlaceFor prog_1_method_25_code 4 (Option.some (.object "WatchList$Limit")) : Cond) ∈ lw_tbl := List.mem_append_right _ (List.mem_append_left _ (List.mem_of_getElem? (i := 158) rfl))
theorem tG_104 : (.instanceMethod yX1_begin : Cond) ∈ lw_tbl := List.mem_append_right _ (List.mem_append_left _ (List.mem_of_getElem? (i := 161) rfl))
theorem tG_105 : (.code yX1_begin prog_3_method_2_code 8 none : Cond) ∈ lw_tbl := List.mem_append_right _ (List.mem_append_left _ (List.mem_of_getElem? (i := 162) rfl))
theorem tG_106 : (.methodLink "WatchList$Limit" 34 yX1_turn : Cond) ∈ lw_tbl := List.mem_append_right _ (List.mem_append_left _ (List.mem_of_getElem? (i := 163) rfl))
theorem tG_107 : (.instanceMethod yX1_turn : Cond) ∈ lw_tbl := List.mem_append_right _ (List.mem_append_left _ (List.mem_of_getElem? (i := 165) rfl))
theorem tG_108 : (.code yX1_turn prog_3_method_3_code 2 none : Cond) ∈ lw_tbl := List.mem_append_right _ (List.mem_append_left _ (List.mem_of_getElem? (i := 166) rfl))
theorem tG_109 : (.methodLink "WatchListLaw" 23 yX3_remove : Cond) ∈ lw_tbl := List.mem_append_right _ (List.mem_append_left _ (List.mem_of_getElem? (i := 167) rfl))
theorem tG_110 : (.instanceMethod yX3_remove : Cond) ∈ lw_tbl := List.mem_append_right _ (List.mem_append_left _ (List.mem_of_getElem? (i := 168) rfl))
theorem tG_111 : (.selects "WatchList" yX3_remove yX3_remove : Cond) ∈ lw_tbl := List.mem_append_right _ (List.mem_append_left _ (List.mem_of_getElem? (i := 169) rfl))
theorem tG_112 : (.code yX3_remove prog_1_method_4_code 3 (some .int) : Cond) ∈ lw_tbl := List.mem_append_right _ (List.mem_append_left _ (List.mem_of_getElem? (i := 170) rfl))
theorem tG_113 : (.methodLink "WatchList" 68 yX3_closePlace : Cond) ∈ lw_tbl := List.mem_append_right _ (List.mem_append_left _ (List.mem_of_getElem? (i := 171) rfl))
theorem tG_114 : (.instanceMethod yX3_closePlace : Cond) ∈ lw_tbl := List.mem_append_right _ (List.mem_append_left _ (List.mem_of_getElem? (i := 173) rfl))
theorem tG_115 : (.code yX3_closePlace prog_1_method_26_code 4 none : Cond) ∈ lw_tbl := List.mem_append_right _ (List.mem_append_left _ (List.mem_of_getElem? (i := 174) rfl))
theorem tG_116 : (.methodLink "WatchListLaw" 28 yX3_enable : Cond) ∈ lw_tbl := List.mem_append_right _ (List.mem_append_left _ (List.mem_of_getElem? (i := 175) rfl))
theorem tG_117 : (.instanceMethod yX3_enable : Cond) ∈ lw_tbl := List.mem_append_right _ (List.mem_append_left _ (List.mem_of_getElem? (i := 176) rfl))
theorem tG_118 : (.selects "WatchList" yX3_enable yX3_enable : Cond) ∈ lw_tbl := List.mem_append_right _ (List.mem_append_left _ (List.mem_of_getElem? (i := 177) rfl))
theorem tG_119 : (.code yX3_enable prog_1_method_5_code 4 (some .int) : Cond) ∈ lw_tbl := List.mem_append_right _ (List.mem_append_left _ (List.mem_of_getElem? (i := 178) rfl))
theorem tG_120 : (.methodLink "WatchListLaw" 33 yX3_watch : Cond) ∈ lw_tbl := List.mem_append_right _ (List.mem_append_left _ (List.mem_of_getElem? (i := 180) rfl))
theorem tG_121 : (.instanceMethod yX3_watch : Cond) ∈ lw_tbl := List.mem_append_right _ (List.mem_append_left _ (List.mem_of_getElem? (i := 181) rfl))
theorem tG_122 : (.selects "WatchList" yX3_watch yX3_watch : Cond) ∈ lw_tbl := List.mem_append_right _ (List.mem_append_left _ (List.mem_of_getElem? (i := 182) rfl))
theorem tG_123 : (.code yX3_watch prog_1_method_6_code 5 (some .int) : Cond) ∈ lw_tbl := List.mem_append_right _ (List.mem_append_left _ (List.mem_of_getElem? (i := 183) rfl))
theorem tG_124 : (.instanceMethod yX1_breaksAt : Cond) ∈ lw_tbl := List.mem_append_right _ (List.mem_append_left _ (List.mem_of_getElem? (i := 186) rfl))
theorem tG_125 : (.code yX1_breaksAt prog_3_method_4_code 2 (some .boolean) : Cond) ∈ lw_tbl := List.mem_append_right _ (List.mem_append_left _ (List.mem_of_getElem? (i := 187) rfl))
theorem tG_126 : (.methodLink "WatchList" 91 yX3_waitOrLose : Cond) ∈ lw_tbl := List.mem_append_right _ (List.mem_append_left _ (List.mem_of_getElem? (i := 188) rfl))
theorem tG_127 : (.instanceMethod yX3_waitOrLose : Cond) ∈ lw_tbl := List.mem_append_right _ (List.mem_append_left _ (List.mem_of_getElem? (i := 190) rfl))
theorem tG_128 : (.code yX3_waitOrLose prog_1_method_27_code 3 (some .boolean) : Cond) ∈ lw_tbl := List.mem_append_right _ (List.mem_append_left _ (List.mem_of_getElem? (i := 191) rfl))
theorem tG_129 : (.instanceMethod yX2_append : Cond) ∈ lw_tbl := List.mem_append_right _ (List.mem_append_left _ (List.mem_of_getElem? (i := 194) rfl))
theorem tG_130 : (.code yX2_append prog_4_method_2_code 4 none : Cond) ∈ lw_tbl := List.mem_append_right _ (List.mem_append_left _ (List.mem_of_getElem? (i := 195) rfl))
theorem tG_131 : (.methodLink "WatchListLaw" 38 yX3_linked : Cond) ∈ lw_tbl := List.mem_append_right _ (List.mem_append_left _ (List.mem_of_getElem? (i := 196) rfl))
theorem tG_132 : (.instanceMethod yX3_linked : Cond) ∈ lw_tbl := List.mem_append_right _ (List.mem_append_left _ (List.mem_of_getElem? (i := 197) rfl))
theorem tG_133 : (.selects "WatchList" yX3_linked yX3_linked : Cond) ∈ lw_tbl := List.mem_append_right _ (List.mem_append_left _ (List.mem_of_getElem? (i := 198) rfl))
theorem tG_134 : (.code yX3_linked prog_1_method_7_code 1 (some .boolean) : Cond) ∈ lw_tbl := List.mem_append_right _ (List.mem_append_left _ (List.mem_of_getElem? (i := 199) rfl))
theorem tG_135 : (.methodLink "WatchListLaw" 43 yX3_raise : Cond) ∈ lw_tbl := List.mem_append_right _ (List.mem_append_left _ (List.mem_of_getElem? (i := 200) rfl))
theorem tG_136 : (.instanceMethod yX3_raise : Cond) ∈ lw_tbl := List.mem_append_right _ (List.mem_append_left _ (List.mem_of_getElem? (i := 201) rfl))
theorem tG_137 : (.selects "WatchList" yX3_raise yX3_raise : Cond) ∈ lw_tbl := List.mem_append_right _ (List.mem_append_left _ (List.mem_of_getElem? (i := 202) rfl))
theorem tG_138 : (.code yX3_raise prog_1_method_8_code 3 (some .boolean) : Cond) ∈ lw_tbl := List.mem_append_right _ (List.mem_append_left _ (List.mem_of_getElem? (i := 203) rfl))
theorem tG_139 : (.methodLink "WatchListLaw" 47 yX3_work : Cond) ∈ lw_tbl := List.mem_append_right _ (List.mem_append_left _ (List.mem_of_getElem? (i := 204) rfl))
theorem tG_140 : (.instanceMethod yX3_work : Cond) ∈ lw_tbl := List.mem_append_right _ (List.mem_append_left _ (List.mem_of_getElem? (i := 205) rfl))
theorem tG_141 : (.selects "WatchList" yX3_work yX3_work : Cond) ∈ lw_tbl := List.mem_append_right _ (List.mem_append_left _ (List.mem_of_getElem? (i := 206) rfl))
theorem tG_142 : (.code yX3_work prog_1_method_9_code 2 (some .int) : Cond) ∈ lw_tbl := List.mem_append_right _ (List.mem_append_left _ (List.mem_of_getElem? (i := 207) rfl))
theorem tG_143 : (.instanceMethod yX2_firstEvent : Cond) ∈ lw_tbl := List.mem_append_right _ (List.mem_append_left _ (List.mem_of_getElem? (i := 210) rfl))
theorem tG_144 : (.code yX2_firstEvent prog_4_method_3_code 1 (some .int) : Cond) ∈ lw_tbl := List.mem_append_right _ (List.mem_append_left _ (List.mem_of_getElem? (i := 211) rfl))
theorem tG_145 : (.instanceMethod yX2_firstNumber : Cond) ∈ lw_tbl := List.mem_append_right _ (List.mem_append_left _ (List.mem_of_getElem? (i := 214) rfl))
theorem tG_146 : (.code yX2_firstNumber prog_4_method_4_code 1 (some .int) : Cond) ∈ lw_tbl := List.mem_append_right _ (List.mem_append_left _ (List.mem_of_getElem? (i := 215) rfl))
theorem tG_147 : (.instanceMethod yX2_takeFirst : Cond) ∈ lw_tbl := List.mem_append_right _ (List.mem_append_left _ (List.mem_of_getElem? (i := 218) rfl))
theorem tG_148 : (.code yX2_takeFirst prog_4_method_5_code 1 none : Cond) ∈ lw_tbl := List.mem_append_right _ (List.mem_append_left _ (List.mem_of_getElem? (i := 219) rfl))
theorem tG_149 : (.methodLink "WatchListLaw" 51 yX3_lose : Cond) ∈ lw_tbl := List.mem_append_right _ (List.mem_append_left _ (List.mem_of_getElem? (i := 220) rfl))
theorem tG_150 : (.instanceMethod yX3_lose : Cond) ∈ lw_tbl := List.mem_append_right _ (List.mem_append_left _ (List.mem_of_getElem? (i := 221) rfl))
theorem tG_151 : (.selects "WatchList" yX3_lose yX3_lose : Cond) ∈ lw_tbl := List.mem_append_right _ (List.mem_append_left _ (List.mem_of_getElem? (i := 222) rfl))
theorem tG_152 : (.code yX3_lose prog_1_method_10_code 2 (some .int) : Cond) ∈ lw_tbl := List.mem_append_right _ (List.mem_append_left _ (List.mem_of_getElem? (i := 223) rfl))
theorem tG_153 : (.instanceMethod yX2_empty : Cond) ∈ lw_tbl := List.mem_append_right _ (List.mem_append_left _ (List.mem_of_getElem? (i := 226) rfl))
theorem tG_154 : (.code yX2_empty prog_4_method_6_code 1 none : Cond) ∈ lw_tbl := List.mem_append_right _ (List.mem_append_left _ (List.mem_of_getElem? (i := 227) rfl))
theorem tG_155 : (.methodLink "WatchListLaw" 55 yX3_tell : Cond) ∈ lw_tbl := List.mem_append_right _ (List.mem_append_left _ (List.mem_of_getElem? (i := 228) rfl))
theorem tG_156 : (.instanceMethod yX3_tell : Cond) ∈ lw_tbl := List.mem_append_right _ (List.mem_append_left _ (List.mem_of_getElem? (i := 229) rfl))
theorem tG_157 : (.selects "WatchList" yX3_tell yX3_tell : Cond) ∈ lw_tbl := List.mem_append_right _ (List.mem_append_left _ (List.mem_of_getElem? (i := 230) rfl))
theorem tG_158 : (.code yX3_tell prog_1_method_11_code 3 (some .int) : Cond) ∈ lw_tbl := List.mem_append_right _ (List.mem_append_left _ (List.mem_of_getElem? (i := 231) rfl))
theorem tG_159 : (.methodLink "WatchListLaw" 59 yX3_put : Cond) ∈ lw_tbl := List.mem_append_right _ (List.mem_append_left _ (List.mem_of_getElem? (i := 232) rfl))
theorem tG_160 : (.instanceMethod yX3_put : Cond) ∈ lw_tbl := List.mem_append_right _ (List.mem_append_left _ (List.mem_of_getElem? (i := 233) rfl))
theorem tG_161 : (.selects "WatchList" yX3_put yX3_put : Cond) ∈ lw_tbl := List.mem_append_right _ (List.mem_append_left _ (List.mem_of_getElem? (i := 234) rfl))
theorem tG_162 : (.code yX3_put prog_1_method_12_code 2 (some .int) : Cond) ∈ lw_tbl := List.mem_append_right _ (List.mem_append_left _ (List.mem_of_getElem? (i := 235) rfl))
theorem tG_163 : (.methodLink "WatchListLaw" 63 yX3_act : Cond) ∈ lw_tbl := List.mem_append_right _ (List.mem_append_left _ (List.mem_of_getElem? (i := 236) rfl))
theorem tG_164 : (.instanceMethod yX3_act : Cond) ∈ lw_tbl := List.mem_append_right _ (List.mem_append_left _ (List.mem_of_getElem? (i := 237) rfl))
theorem tG_165 : (.selects "WatchList" yX3_act yX3_act : Cond) ∈ lw_tbl := List.mem_append_right _ (List.mem_append_left _ (List.mem_of_getElem? (i := 238) rfl))
theorem tG_166 : (.code yX3_act prog_1_method_13_code 3 (some .int) : Cond) ∈ lw_tbl := List.mem_append_right _ (List.mem_append_left _ (List.mem_of_getElem? (i := 239) rfl))
theorem tG_167 : (.instanceMethod yX0_hasAction : Cond) ∈ lw_tbl := List.mem_append_right _ (List.mem_append_right _ (List.mem_of_getElem? (i := 2) rfl))
theorem tG_168 : (.code yX0_hasAction prog_2_method_2_code 1 (some .boolean) : Cond) ∈ lw_tbl := List.mem_append_right _ (List.mem_append_right _ (List.mem_of_getElem? (i := 3) rfl))
theorem tG_169 : (.instanceMethod yX0_takeAction : Cond) ∈ lw_tbl := List.mem_append_right _ (List.mem_append_right _ (List.mem_of_getElem? (i := 6) rfl))
theorem tG_170 : (.code yX0_takeAction prog_2_method_3_code 3 none : Cond) ∈ lw_tbl := List.mem_append_right _ (List.mem_append_right _ (List.mem_of_getElem? (i := 7) rfl))
theorem tG_171 : (.methodLink "WatchList$Event" 23 arraycopyName : Cond) ∈ lw_tbl := List.mem_append_right _ (List.mem_append_right _ (List.mem_of_getElem? (i := 8) rfl))
theorem tG_172 : (.static arraycopyName : Cond) ∈ lw_tbl := List.mem_append_right _ (List.mem_append_right _ (List.mem_of_getElem? (i := 9) rfl))
theorem tG_173 : (.native arraycopyName : Cond) ∈ lw_tbl := List.mem_append_right _ (List.mem_append_right _ (List.mem_of_getElem? (i := 10) rfl))
theorem tG_174 : (.methodLink "WatchListLaw" 67 yX3_drop : Cond) ∈ lw_tbl := List.mem_append_right _ (List.mem_append_right _ (List.mem_of_getElem? (i := 11) rfl))
theorem tG_175 : (.instanceMethod yX3_drop : Cond) ∈ lw_tbl := List.mem_append_right _ (List.mem_append_right _ (List.mem_of_getElem? (i := 12) rfl))
theorem tG_176 : (.selects "WatchList" yX3_drop yX3_drop : Cond) ∈ lw_tbl := List.mem_append_right _ (List.mem_append_right _ (List.mem_of_getElem? (i := 13) rfl))
theorem tG_177 : (.code yX3_drop prog_1_method_14_code 3 (some .int) : Cond) ∈ lw_tbl := List.mem_append_right _ (List.mem_append_right _ (List.mem_of_getElem? (i := 14) rfl))
theorem tG_178 : (.methodLink "WatchList" 134 yX3_actionFailure : Cond) ∈ lw_tbl := List.mem_append_right _ (List.mem_append_right _ (List.mem_of_getElem? (i := 15) rfl))
theorem tG_179 : (.instanceMethod yX3_actionFailure : Cond) ∈ lw_tbl := List.mem_append_right _ (List.mem_append_right _ (List.mem_of_getElem? (i := 17) rfl))
theorem tG_180 : (.code yX3_actionFailure prog_1_method_28_code 2 (some .int) : Cond) ∈ lw_tbl := List.mem_append_right _ (List.mem_append_right _ (List.mem_of_getElem? (i := 18) rfl))
theorem tG_181 : (.methodLink "WatchListLaw" 71 yX3_arm : Cond) ∈ lw_tbl := List.mem_append_right _ (List.mem_append_right _ (List.mem_of_getElem? (i := 19) rfl))
theorem tG_182 : (.instanceMethod yX3_arm : Cond) ∈ lw_tbl := List.mem_append_right _ (List.mem_append_right _ (List.mem_of_getElem? (i := 20) rfl))
theorem tG_183 : (.selects "WatchList" yX3_arm yX3_arm : Cond) ∈ lw_tbl := List.mem_append_right _ (List.mem_append_right _ (List.mem_of_getElem? (i := 21) rfl))
theorem tG_184 : (.code yX3_arm prog_1_method_15_code 4 (some .int) : Cond) ∈ lw_tbl := List.mem_append_right _ (List.mem_append_right _ (List.mem_of_getElem? (i := 22) rfl))
theorem tG_185 : (.methodLink "WatchListLaw" 75 yX3_limit : Cond) ∈ lw_tbl := List.mem_append_right _ (List.mem_append_right _ (List.mem_of_getElem? (i := 23) rfl))
theorem tG_186 : (.instanceMethod yX3_limit : Cond) ∈ lw_tbl := List.mem_append_right _ (List.mem_append_right _ (List.mem_of_getElem? (i := 24) rfl))
theorem tG_187 : (.selects "WatchList" yX3_limit yX3_limit : Cond) ∈ lw_tbl := List.mem_append_right _ (List.mem_append_right _ (List.mem_of_getElem? (i := 25) rfl))
theorem tG_188 : (.code yX3_limit prog_1_method_16_code 4 (some .int) : Cond) ∈ lw_tbl := List.mem_append_right _ (List.mem_append_right _ (List.mem_of_getElem? (i := 26) rfl))
theorem tG_189 : (.instanceMethod yX1_tellOf : Cond) ∈ lw_tbl := List.mem_append_right _ (List.mem_append_right _ (List.mem_of_getElem? (i := 29) rfl))
theorem tG_190 : (.code yX1_tellOf prog_3_method_5_code 2 (some .int) : Cond) ∈ lw_tbl := List.mem_append_right _ (List.mem_append_right _ (List.mem_of_getElem? (i := 30) rfl))
theorem tG_191 : (.static yX3_oneIf : Cond) ∈ lw_tbl := List.mem_append_right _ (List.mem_append_right _ (List.mem_of_getElem? (i := 32) rfl))
theorem tG_192 : (.code yX3_oneIf prog_1_method_23_code 1 (some .int) : Cond) ∈ lw_tbl := List.mem_append_right _ (List.mem_append_right _ (List.mem_of_getElem? (i := 33) rfl))
theorem tG_193 : (.methodLink "WatchListLaw" 80 yX3_event : Cond) ∈ lw_tbl := List.mem_append_right _ (List.mem_append_right _ (List.mem_of_getElem? (i := 34) rfl))
theorem tG_194 : (.instanceMethod yX3_event : Cond) ∈ lw_tbl := List.mem_append_right _ (List.mem_append_right _ (List.mem_of_getElem? (i := 35) rfl))
theorem tG_195 : (.selects "WatchList" yX3_event yX3_event : Cond) ∈ lw_tbl := List.mem_append_right _ (List.mem_append_right _ (List.mem_of_getElem? (i := 36) rfl))
theorem tG_196 : (.code yX3_event prog_1_method_17_code 3 (some .int) : Cond) ∈ lw_tbl := List.mem_append_right _ (List.mem_append_right _ (List.mem_of_getElem? (i := 37) rfl))
theorem tG_197 : (.instanceMethod yX0_tellOf : Cond) ∈ lw_tbl := List.mem_append_right _ (List.mem_append_right _ (List.mem_of_getElem? (i := 40) rfl))
theorem tG_198 : (.code yX0_tellOf prog_2_method_5_code 2 (some .int) : Cond) ∈ lw_tbl := List.mem_append_right _ (List.mem_append_right _ (List.mem_of_getElem? (i := 41) rfl))
theorem tG_199 : (.methodLink "WatchListLaw" 84 yX3_actionAt : Cond) ∈ lw_tbl := List.mem_append_right _ (List.mem_append_right _ (List.mem_of_getElem? (i := 43) rfl))
theorem tG_200 : (.instanceMethod yX3_actionAt : Cond) ∈ lw_tbl := List.mem_append_right _ (List.mem_append_right _ (List.mem_of_getElem? (i := 44) rfl))
theorem tG_201 : (.selects "WatchList" yX3_actionAt yX3_actionAt : Cond) ∈ lw_tbl := List.mem_append_right _ (List.mem_append_right _ (List.mem_of_getElem? (i := 45) rfl))
theorem tG_202 : (.code yX3_actionAt prog_1_method_18_code 3 (some .int) : Cond) ∈ lw_tbl := List.mem_append_right _ (List.mem_append_right _ (List.mem_of_getElem? (i := 46) rfl))
theorem tG_203 : (.instanceMethod yX0_byteAt : Cond) ∈ lw_tbl := List.mem_append_right _ (List.mem_append_right _ (List.mem_of_getElem? (i := 49) rfl))
theorem tG_204 : (.code yX0_byteAt prog_2_method_4_code 2 (some .int) : Cond) ∈ lw_tbl := List.mem_append_right _ (List.mem_append_right _ (List.mem_of_getElem? (i := 50) rfl))
theorem tG_205 : (.methodLink "WatchListLaw" 88 yX3_count : Cond) ∈ lw_tbl := List.mem_append_right _ (List.mem_append_right _ (List.mem_of_getElem? (i := 51) rfl))
theorem tG_206 : (.instanceMethod yX3_count : Cond) ∈ lw_tbl := List.mem_append_right _ (List.mem_append_right _ (List.mem_of_getElem? (i := 52) rfl))
theorem tG_207 : (.selects "WatchList" yX3_count yX3_count : Cond) ∈ lw_tbl := List.mem_append_right _ (List.mem_append_right _ (List.mem_of_getElem? (i := 53) rfl))
theorem tG_208 : (.code yX3_count prog_1_method_19_code 2 (some .int) : Cond) ∈ lw_tbl := List.mem_append_right _ (List.mem_append_right _ (List.mem_of_getElem? (i := 54) rfl))
theorem tG_209 : (.classLink "WatchListLaw" 10 "WatchListModel" : Cond) ∈ lw_tbl := List.mem_append_right _ (List.mem_append_right _ (List.mem_of_getElem? (i := 55) rfl))
theorem tG_210 : (.instantiable "WatchListModel" 24 : Cond) ∈ lw_tbl := List.mem_append_right _ (List.mem_append_right _ (List.mem_of_getElem? (i := 56) rfl))
theorem tG_211 : (.methodLink "WatchListLaw" 12 yX4_init : Cond) ∈ lw_tbl := List.mem_append_right _ (List.mem_append_right _ (List.mem_of_getElem? (i := 57) rfl))
theorem tG_212 : (.instanceMethod yX4_init : Cond) ∈ lw_tbl := List.mem_append_right _ (List.mem_append_right _ (List.mem_of_getElem? (i := 58) rfl))
theorem tG_213 : (.code yX4_init prog_6_method_1_code 1 none : Cond) ∈ lw_tbl := List.mem_append_right _ (List.mem_append_right _ (List.mem_of_getElem? (i := 59) rfl))
theorem tG_214 : (.methodLink "WatchListModel" 1 objectInit : Cond) ∈ lw_tbl := List.mem_append_right _ (List.mem_append_right _ (List.mem_of_getElem? (i := 60) rfl))
theorem tG_215 : (.fieldLink "WatchListModel" 63 "WatchListModel" "thrown" "I" : Cond) ∈ lw_tbl := List.mem_append_right _ (List.mem_append_right _ (List.mem_of_getElem? (i := 61) rfl))
theorem tG_216 : (.fieldLink "WatchListModel" 7 "WatchListModel" "parameters" "[I" : Cond) ∈ lw_tbl := List.mem_append_right _ (List.mem_append_right _ (List.mem_of_getElem? (i := 62) rfl))
theorem tG_217 : (.fieldLink "WatchListModel" 13 "WatchListModel" "there" "[Z" : Cond) ∈ lw_tbl := List.mem_append_right _ (List.mem_append_right _ (List.mem_of_getElem? (i := 63) rfl))
theorem tG_218 : (.fieldLink "WatchListModel" 17 "WatchListModel" "on" "[Z" : Cond) ∈ lw_tbl := List.mem_append_right _ (List.mem_append_right _ (List.mem_of_getElem? (i := 64) rfl))
theorem tG_219 : (.fieldLink "WatchListModel" 20 "WatchListModel" "links" "[Z" : Cond) ∈ lw_tbl := List.mem_append_right _ (List.mem_append_right _ (List.mem_of_getElem? (i := 65) rfl))
theorem tG_220 : (.fieldLink "WatchListModel" 23 "WatchListModel" "of" "[I" : Cond) ∈ lw_tbl := List.mem_append_right _ (List.mem_append_right _ (List.mem_of_getElem? (i := 66) rfl))
theorem tG_221 : (.fieldLink "WatchListModel" 26 "WatchListModel" "times" "[I" : Cond) ∈ lw_tbl := List.mem_append_right _ (List.mem_append_right _ (List.mem_of_getElem? (i := 67) rfl))
theorem tG_222 : (.fieldLink "WatchListModel" 29 "WatchListModel" "low" "[I" : Cond) ∈ lw_tbl := List.mem_append_right _ (List.mem_append_right _ (List.mem_of_getElem? (i := 68) rfl))
theorem tG_223 : (.fieldLink "WatchListModel" 32 "WatchListModel" "high" "[I" : Cond) ∈ lw_tbl := List.mem_append_right _ (List.mem_append_right _ (List.mem_of_getElem? (i := 69) rfl))
theorem tG_224 : (.fieldLink "WatchListModel" 35 "WatchListModel" "raises" "[I" : Cond) ∈ lw_tbl := List.mem_append_right _ (List.mem_append_right _ (List.mem_of_getElem? (i := 70) rfl))
theorem tG_225 : (.fieldLink "WatchListModel" 38 "WatchListModel" "counts" "[I" : Cond) ∈ lw_tbl := List.mem_append_right _ (List.mem_append_right _ (List.mem_of_getElem? (i := 71) rfl))
theorem tG_226 : (.fieldLink "WatchListModel" 93 "WatchListModel" "broken" "I" : Cond) ∈ lw_tbl := List.mem_append_right _ (List.mem_append_right _ (List.mem_of_getElem? (i := 72) rfl))
theorem tG_227 : (.fieldLink "WatchListModel" 85 "WatchListModel" "linked" "Z" : Cond) ∈ lw_tbl := List.mem_append_right _ (List.mem_append_right _ (List.mem_of_getElem? (i := 73) rfl))
theorem tG_228 : (.fieldLink "WatchListModel" 79 "WatchListModel" "waiting" "I" : Cond) ∈ lw_tbl := List.mem_append_right _ (List.mem_append_right _ (List.mem_of_getElem? (i := 74) rfl))
theorem tG_229 : (.fieldLink "WatchListModel" 41 "WatchListModel" "events" "[I" : Cond) ∈ lw_tbl := List.mem_append_right _ (List.mem_append_right _ (List.mem_of_getElem? (i := 75) rfl))
theorem tG_230 : (.fieldLink "WatchListModel" 44 "WatchListModel" "numbers" "[I" : Cond) ∈ lw_tbl := List.mem_append_right _ (List.mem_append_right _ (List.mem_of_getElem? (i := 76) rfl))
theorem tG_231 : (.fieldLink "WatchListModel" 82 "WatchListModel" "lost" "I" : Cond) ∈ lw_tbl := List.mem_append_right _ (List.mem_append_right _ (List.mem_of_getElem? (i := 77) rfl))
theorem tG_232 : (.fieldLink "WatchListModel" 99 "WatchListModel" "worked" "I" : Cond) ∈ lw_tbl := List.mem_append_right _ (List.mem_append_right _ (List.mem_of_getElem? (i := 78) rfl))
theorem tG_233 : (.fieldLink "WatchListModel" 47 "WatchListModel" "silent" "[Z" : Cond) ∈ lw_tbl := List.mem_append_right _ (List.mem_append_right _ (List.mem_of_getElem? (i := 79) rfl))
theorem tG_234 : (.fieldLink "WatchListModel" 50 "WatchListModel" "sizes" "[I" : Cond) ∈ lw_tbl := List.mem_append_right _ (List.mem_append_right _ (List.mem_of_getElem? (i := 80) rfl))
theorem tG_235 : (.fieldLink "WatchListModel" 53 "WatchListModel" "armed" "[Z" : Cond) ∈ lw_tbl := List.mem_append_right _ (List.mem_append_right _ (List.mem_of_getElem? (i := 81) rfl))
theorem tG_236 : (.fieldLink "WatchListModel" 56 "WatchListModel" "actions" "[B" : Cond) ∈ lw_tbl := List.mem_append_right _ (List.mem_append_right _ (List.mem_of_getElem? (i := 82) rfl))
theorem tG_237 : (.fieldLink "WatchListModel" 102 "WatchListModel" "size" "I" : Cond) ∈ lw_tbl := List.mem_append_right _ (List.mem_append_right _ (List.mem_of_getElem? (i := 83) rfl))
theorem tG_238 : (.fieldLink "WatchListModel" 60 "WatchListModel" "text" "[B" : Cond) ∈ lw_tbl := List.mem_append_right _ (List.mem_append_right _ (List.mem_of_getElem? (i := 84) rfl))
theorem tG_239 : (.arrayClass .boolean : Cond) ∈ lw_tbl := List.mem_append_right _ (List.mem_append_right _ (List.mem_of_getElem? (i := 134) rfl))
theorem tG_240 : (.methodLink "WatchListLaw" 17 yX4_set : Cond) ∈ lw_tbl := List.mem_append_right _ (List.mem_append_right _ (List.mem_of_getElem? (i := 135) rfl))
theorem tG_241 : (.instanceMethod yX4_set : Cond) ∈ lw_tbl := List.mem_append_right _ (List.mem_append_right _ (List.mem_of_getElem? (i := 136) rfl))
theorem tG_242 : (.selects "WatchListModel" yX4_set yX4_set : Cond) ∈ lw_tbl := List.mem_append_right _ (List.mem_append_right _ (List.mem_of_getElem? (i := 137) rfl))
theorem tG_243 : (.code yX4_set prog_6_method_3_code 3 (some .boolean) : Cond) ∈ lw_tbl := List.mem_append_right _ (List.mem_append_right _ (List.mem_of_getElem? (i := 138) rfl))
theorem tG_244 : (.methodLink "WatchListLaw" 22 yX4_add : Cond) ∈ lw_tbl := List.mem_append_right _ (List.mem_append_right _ (List.mem_of_getElem? (i := 139) rfl))
theorem tG_245 : (.instanceMethod yX4_add : Cond) ∈ lw_tbl := List.mem_append_right _ (List.mem_append_right _ (List.mem_of_getElem? (i := 140) rfl))
theorem tG_246 : (.selects "WatchListModel" yX4_add yX4_add : Cond) ∈ lw_tbl := List.mem_append_right _ (List.mem_append_right _ (List.mem_of_getElem? (i := 141) rfl))
theorem tG_247 : (.code yX4_add prog_6_method_7_code 8 (some .int) : Cond) ∈ lw_tbl := List.mem_append_right _ (List.mem_append_right _ (List.mem_of_getElem? (i := 142) rfl))
theorem tG_248 : (.methodLink "WatchListModel" 67 yX4_isIn : Cond) ∈ lw_tbl := List.mem_append_right _ (List.mem_append_right _ (List.mem_of_getElem? (i := 143) rfl))
theorem tG_249 : (.static yX4_isIn : Cond) ∈ lw_tbl := List.mem_append_right _ (List.mem_append_right _ (List.mem_of_getElem? (i := 144) rfl))
theorem tG_250 : (.code yX4_isIn prog_6_method_6_code 3 (some .boolean) : Cond) ∈ lw_tbl := List.mem_append_right _ (List.mem_append_right _ (List.mem_of_getElem? (i := 145) rfl))
theorem tG_251 : (.methodLink "WatchListModel" 71 yX4_limits : Cond) ∈ lw_tbl := List.mem_append_right _ (List.mem_append_right _ (List.mem_of_getElem? (i := 146) rfl))
theorem tG_252 : (.instanceMethod yX4_limits : Cond) ∈ lw_tbl := List.mem_append_right _ (List.mem_append_right _ (List.mem_of_getElem? (i := 148) rfl))
theorem tG_253 : (.code yX4_limits prog_6_method_5_code 3 (some .int) : Cond) ∈ lw_tbl := List.mem_append_right _ (List.mem_append_right _ (List.mem_of_getElem? (i := 149) rfl))
theorem tG_254 : (.methodLink "WatchListLaw" 27 yX4_remove : Cond) ∈ lw_tbl := List.mem_append_right _ (List.mem_append_right _ (List.mem_of_getElem? (i := 150) rfl))
theorem tG_255 : (.instanceMethod yX4_remove : Cond) ∈ lw_tbl := List.mem_append_right _ (List.mem_append_right _ (List.mem_of_getElem? (i := 151) rfl))
theorem tG_256 : (.selects "WatchListModel" yX4_remove yX4_remove : Cond) ∈ lw_tbl := List.mem_append_right _ (List.mem_append_right _ (List.mem_of_getElem? (i := 152) rfl))
theorem tG_257 : (.code yX4_remove prog_6_method_8_code 2 (some .int) : Cond) ∈ lw_tbl := List.mem_append_right _ (List.mem_append_right _ (List.mem_of_getElem? (i := 153) rfl))
theorem tG_258 : (.methodLink "WatchListModel" 75 yX4_isThere : Cond) ∈ lw_tbl := List.mem_append_right _ (List.mem_append_right _ (List.mem_of_getElem? (i := 154) rfl))
theorem tG_259 : (.instanceMethod yX4_isThere : Cond) ∈ lw_tbl := List.mem_append_right _ (List.mem_append_right _ (List.mem_of_getElem? (i := 156) rfl))
theorem tG_260 : (.code yX4_isThere prog_6_method_4_code 2 (some .boolean) : Cond) ∈ lw_tbl := List.mem_append_right _ (List.mem_append_right _ (List.mem_of_getElem? (i := 157) rfl))
theorem tG_261 : (.methodLink "WatchListLaw" 32 yX4_enable : Cond) ∈ lw_tbl := List.mem_append_right _ (List.mem_append_right _ (List.mem_of_getElem? (i := 158) rfl))
theorem tG_262 : (.instanceMethod yX4_enable : Cond) ∈ lw_tbl := List.mem_append_right _ (List.mem_append_right _ (List.mem_of_getElem? (i := 159) rfl))
theorem tG_263 : (.selects "WatchListModel" yX4_enable yX4_enable : Cond) ∈ lw_tbl := List.mem_append_right _ (List.mem_append_right _ (List.mem_of_getElem? (i := 160) rfl))
theorem tG_264 : (.code yX4_enable prog_6_method_9_code 3 (some .int) : Cond) ∈ lw_tbl := List.mem_append_right _ (List.mem_append_right _ (List.mem_of_getElem? (i := 161) rfl))
theorem tG_265 : (.methodLink "WatchListLaw" 37 yX4_watch : Cond) ∈ lw_tbl := List.mem_append_right _ (List.mem_append_right _ (List.mem_of_getElem? (i := 162) rfl))
theorem tG_266 : (.instanceMethod yX4_watch : Cond) ∈ lw_tbl := List.mem_append_right _ (List.mem_append_right _ (List.mem_of_getElem? (i := 163) rfl))
theorem tG_267 : (.selects "WatchListModel" yX4_watch yX4_watch : Cond) ∈ lw_tbl := List.mem_append_right _ (List.mem_append_right _ (List.mem_of_getElem? (i := 164) rfl))
theorem tG_268 : (.code yX4_watch prog_6_method_11_code 5 (some .int) : Cond) ∈ lw_tbl := List.mem_append_right _ (List.mem_append_right _ (List.mem_of_getElem? (i := 165) rfl))
theorem tG_269 : (.methodLink "WatchListModel" 89 yX4_waits : Cond) ∈ lw_tbl := List.mem_append_right _ (List.mem_append_right _ (List.mem_of_getElem? (i := 166) rfl))
theorem tG_270 : (.instanceMethod yX4_waits : Cond) ∈ lw_tbl := List.mem_append_right _ (List.mem_append_right _ (List.mem_of_getElem? (i := 168) rfl))
theorem tG_271 : (.code yX4_waits prog_6_method_10_code 3 (some .boolean) : Cond) ∈ lw_tbl := List.mem_append_right _ (List.mem_append_right _ (List.mem_of_getElem? (i := 169) rfl))
theorem tG_272 : (.methodLink "WatchListLaw" 42 yX4_linked : Cond) ∈ lw_tbl := List.mem_append_right _ (List.mem_append_right _ (List.mem_of_getElem? (i := 170) rfl))
theorem tG_273 : (.instanceMethod yX4_linked : Cond) ∈ lw_tbl := List.mem_append_right _ (List.mem_append_right _ (List.mem_of_getElem? (i := 171) rfl))
theorem tG_274 : (.selects "WatchListModel" yX4_linked yX4_linked : Cond) ∈ lw_tbl := List.mem_append_right _ (List.mem_append_right _ (List.mem_of_getElem? (i := 172) rfl))
theorem tG_275 : (.code yX4_linked prog_6_method_12_code 1 (some .boolean) : Cond) ∈ lw_tbl := List.mem_append_right _ (List.mem_append_right _ (List.mem_of_getElem? (i := 173) rfl))
theorem tG_276 : (.methodLink "WatchListLaw" 46 yX4_raise : Cond) ∈ lw_tbl := List.mem_append_right _ (List.mem_append_right _ (List.mem_of_getElem? (i := 174) rfl))
theorem tG_277 : (.instanceMethod yX4_raise : Cond) ∈ lw_tbl := List.mem_append_right _ (List.mem_append_right _ (List.mem_of_getElem? (i := 175) rfl))
theorem tG_278 : (.selects "WatchListModel" yX4_raise yX4_raise : Cond) ∈ lw_tbl := List.mem_append_right _ (List.mem_append_right _ (List.mem_of_getElem? (i := 176) rfl))
theorem tG_279 : (.code yX4_raise prog_6_method_14_code 3 (some .boolean) : Cond) ∈ lw_tbl := List.mem_append_right _ (List.mem_append_right _ (List.mem_of_getElem? (i := 177) rfl))
theorem tG_280 : (.methodLink "WatchListModel" 96 yX4_isEvent : Cond) ∈ lw_tbl := List.mem_append_right _ (List.mem_append_right _ (List.mem_of_getElem? (i := 178) rfl))
theorem tG_281 : (.static yX4_isEvent : Cond) ∈ lw_tbl := List.mem_append_right _ (List.mem_append_right _ (List.mem_of_getElem? (i := 179) rfl))
theorem tG_282 : (.code yX4_isEvent prog_6_method_13_code 1 (some .boolean) : Cond) ∈ lw_tbl := List.mem_append_right _ (List.mem_append_right _ (List.mem_of_getElem? (i := 180) rfl))
theorem tG_283 : (.methodLink "WatchListLaw" 50 yX4_work : Cond) ∈ lw_tbl := List.mem_append_right _ (List.mem_append_right _ (List.mem_of_getElem? (i := 181) rfl))
theorem tG_284 : (.instanceMethod yX4_work : Cond) ∈ lw_tbl := List.mem_append_right _ (List.mem_append_right _ (List.mem_of_getElem? (i := 182) rfl))
theorem tG_285 : (.selects "WatchListModel" yX4_work yX4_work : Cond) ∈ lw_tbl := List.mem_append_right _ (List.mem_append_right _ (List.mem_of_getElem? (i := 183) rfl))
theorem tG_286 : (.code yX4_work prog_6_method_15_code 3 (some .int) : Cond) ∈ lw_tbl := List.mem_append_right _ (List.mem_append_right _ (List.mem_of_getElem? (i := 184) rfl))
theorem tG_287 : (.methodLink "WatchListLaw" 54 yX4_lose : Cond) ∈ lw_tbl := List.mem_append_right _ (List.mem_append_right _ (List.mem_of_getElem? (i := 185) rfl))
theorem tG_288 : (.instanceMethod yX4_lose : Cond) ∈ lw_tbl := List.mem_append_right _ (List.mem_append_right _ (List.mem_of_getElem? (i := 186) rfl))
theorem tG_289 : (.selects "WatchListModel" yX4_lose yX4_lose : Cond) ∈ lw_tbl := List.mem_append_right _ (List.mem_append_right _ (List.mem_of_getElem? (i := 187) rfl))
theorem tG_290 : (.code yX4_lose prog_6_method_16_code 2 (some .int) : Cond) ∈ lw_tbl := List.mem_append_right _ (List.mem_append_right _ (List.mem_of_getElem? (i := 188) rfl))
theorem tG_291 : (.methodLink "WatchListLaw" 58 yX4_tell : Cond) ∈ lw_tbl := List.mem_append_right _ (List.mem_append_right _ (List.mem_of_getElem? (i := 189) rfl))
theorem tG_292 : (.instanceMethod yX4_tell : Cond) ∈ lw_tbl := List.mem_append_right _ (List.mem_append_right _ (List.mem_of_getElem? (i := 190) rfl))
theorem tG_293 : (.selects "WatchListModel" yX4_tell yX4_tell : Cond) ∈ lw_tbl := List.mem_append_right _ (List.mem_append_right _ (List.mem_of_getElem? (i := 191) rfl))
theorem tG_294 : (.code yX4_tell prog_6_method_17_code 3 (some .int) : Cond) ∈ lw_tbl := List.mem_append_right _ (List.mem_append_right _ (List.mem_of_getElem? (i := 192) rfl))
theorem tG_295 : (.methodLink "WatchListLaw" 62 yX4_put : Cond) ∈ lw_tbl := List.mem_append_right _ (List.mem_append_right _ (List.mem_of_getElem? (i := 193) rfl))
theorem tG_296 : (.instanceMethod yX4_put : Cond) ∈ lw_tbl := List.mem_append_right _ (List.mem_append_right _ (List.mem_of_getElem? (i := 194) rfl))
theorem tG_297 : (.selects "WatchListModel" yX4_put yX4_put : Cond) ∈ lw_tbl := List.mem_append_right _ (List.mem_append_right _ (List.mem_of_getElem? (i := 195) rfl))
theorem tG_298 : (.code yX4_put prog_6_method_18_code 2 (some .int) : Cond) ∈ lw_tbl := List.mem_append_right _ (List.mem_append_right _ (List.mem_of_getElem? (i := 196) rfl))
theorem tG_299 : (.methodLink "WatchListLaw" 66 yX4_act : Cond) ∈ lw_tbl := List.mem_append_right _ (List.mem_append_right _ (List.mem_of_getElem? (i := 197) rfl))
theorem tG_300 : (.instanceMethod yX4_act : Cond) ∈ lw_tbl := List.mem_append_right _ (List.mem_append_right _ (List.mem_of_getElem? (i := 198) rfl))
theorem tG_301 : (.selects "WatchListModel" yX4_act yX4_act : Cond) ∈ lw_tbl := List.mem_append_right _ (List.mem_append_right _ (List.mem_of_getElem? (i := 199) rfl))
theorem tG_302 : (.code yX4_act prog_6_method_19_code 4 (some .int) : Cond) ∈ lw_tbl := List.mem_append_right _ (List.mem_append_right _ (List.mem_of_getElem? (i := 200) rfl))
theorem tG_303 : (.methodLink "WatchListLaw" 70 yX4_drop : Cond) ∈ lw_tbl := List.mem_append_right _ (List.mem_append_right _ (List.mem_of_getElem? (i := 201) rfl))
theorem tG_304 : (.instanceMethod yX4_drop : Cond) ∈ lw_tbl := List.mem_append_right _ (List.mem_append_right _ (List.mem_of_getElem? (i := 202) rfl))
theorem tG_305 : (.selects "WatchListModel" yX4_drop yX4_drop : Cond) ∈ lw_tbl := List.mem_append_right _ (List.mem_append_right _ (List.mem_of_getElem? (i := 203) rfl))
theorem tG_306 : (.code yX4_drop prog_6_method_20_code 2 (some .int) : Cond) ∈ lw_tbl := List.mem_append_right _ (List.mem_append_right _ (List.mem_of_getElem? (i := 204) rfl))
theorem tG_307 : (.methodLink "WatchListLaw" 74 yX4_arm : Cond) ∈ lw_tbl := List.mem_append_right _ (List.mem_append_right _ (List.mem_of_getElem? (i := 205) rfl))
theorem tG_308 : (.instanceMethod yX4_arm : Cond) ∈ lw_tbl := List.mem_append_right _ (List.mem_append_right _ (List.mem_of_getElem? (i := 206) rfl))
theorem tG_309 : (.selects "WatchListModel" yX4_arm yX4_arm : Cond) ∈ lw_tbl := List.mem_append_right _ (List.mem_append_right _ (List.mem_of_getElem? (i := 207) rfl))
theorem tG_310 : (.code yX4_arm prog_6_method_21_code 3 (some .int) : Cond) ∈ lw_tbl := List.mem_append_right _ (List.mem_append_right _ (List.mem_of_getElem? (i := 208) rfl))
theorem tG_311 : (.methodLink "WatchListLaw" 79 yX4_limit : Cond) ∈ lw_tbl := List.mem_append_right _ (List.mem_append_right _ (List.mem_of_getElem? (i := 209) rfl))
theorem tG_312 : (.instanceMethod yX4_limit : Cond) ∈ lw_tbl := List.mem_append_right _ (List.mem_append_right _ (List.mem_of_getElem? (i := 210) rfl))
theorem tG_313 : (.selects "WatchListModel" yX4_limit yX4_limit : Cond) ∈ lw_tbl := List.mem_append_right _ (List.mem_append_right _ (List.mem_of_getElem? (i := 211) rfl))
theorem tG_314 : (.code yX4_limit prog_6_method_22_code 3 (some .int) : Cond) ∈ lw_tbl := List.mem_append_right _ (List.mem_append_right _ (List.mem_of_getElem? (i := 212) rfl))
theorem tG_315 : (.methodLink "WatchListLaw" 83 yX4_event : Cond) ∈ lw_tbl := List.mem_append_right _ (List.mem_append_right _ (List.mem_of_getElem? (i := 213) rfl))
theorem tG_316 : (.instanceMethod yX4_event : Cond) ∈ lw_tbl := List.mem_append_right _ (List.mem_append_right _ (List.mem_of_getElem? (i := 214) rfl))
theorem tG_317 : (.selects "WatchListModel" yX4_event yX4_event : Cond) ∈ lw_tbl := List.mem_append_right _ (List.mem_append_right _ (List.mem_of_getElem? (i := 215) rfl))
theorem tG_318 : (.code yX4_event prog_6_method_23_code 3 (some .int) : Cond) ∈ lw_tbl := List.mem_append_right _ (List.mem_append_right _ (List.mem_of_getElem? (i := 216) rfl))
theorem tG_319 : (.methodLink "WatchListLaw" 87 yX4_actionAt : Cond) ∈ lw_tbl := List.mem_append_right _ (List.mem_append_right _ (List.mem_of_getElem? (i := 217) rfl))
theorem tG_320 : (.instanceMethod yX4_actionAt : Cond) ∈ lw_tbl := List.mem_append_right _ (List.mem_append_right _ (List.mem_of_getElem? (i := 218) rfl))
theorem tG_321 : (.selects "WatchListModel" yX4_actionAt yX4_actionAt : Cond) ∈ lw_tbl := List.mem_append_right _ (List.mem_append_right _ (List.mem_of_getElem? (i := 219) rfl))
theorem tG_322 : (.code yX4_actionAt prog_6_method_24_code 3 (some .int) : Cond) ∈ lw_tbl := List.mem_append_right _ (List.mem_append_right _ (List.mem_of_getElem? (i := 220) rfl))
theorem tG_323 : (.methodLink "WatchListLaw" 91 yX4_count : Cond) ∈ lw_tbl := List.mem_append_right _ (List.mem_append_right _ (List.mem_of_getElem? (i := 221) rfl))
theorem tG_324 : (.instanceMethod yX4_count : Cond) ∈ lw_tbl := List.mem_append_right _ (List.mem_append_right _ (List.mem_of_getElem? (i := 222) rfl))
theorem tG_325 : (.selects "WatchListModel" yX4_count yX4_count : Cond) ∈ lw_tbl := List.mem_append_right _ (List.mem_append_right _ (List.mem_of_getElem? (i := 223) rfl))
theorem tG_326 : (.code yX4_count prog_6_method_25_code 2 (some .int) : Cond) ∈ lw_tbl := List.mem_append_right _ (List.mem_append_right _ (List.mem_of_getElem? (i := 224) rfl))
theorem tGr_0 : ∀ w ∈ gG_0, w ∈ lw_tbl := List.forall_mem_cons.mpr ⟨tG_0, List.forall_mem_cons.mpr ⟨tG_1, List.forall_mem_cons.mpr ⟨tG_2, List.forall_mem_cons.mpr ⟨tG_3, List.forall_mem_cons.mpr ⟨tG_4, List.forall_mem_cons.mpr ⟨tG_5, List.forall_mem_cons.mpr ⟨tG_6, List.forall_mem_cons.mpr ⟨tG_7, List.forall_mem_cons.mpr ⟨tG_8, List.forall_mem_cons.mpr ⟨tG_9, List.forall_mem_cons.mpr ⟨tG_10, List.forall_mem_cons.mpr ⟨tG_11, List.forall_mem_cons.mpr ⟨tG_12, List.forall_mem_cons.mpr ⟨tG_13, List.forall_mem_cons.mpr ⟨tG_14, List.forall_mem_cons.mpr ⟨tG_15, List.forall_mem_cons.mpr ⟨tG_16, List.forall_mem_cons.mpr ⟨tG_17, List.forall_mem_cons.mpr ⟨tG_18, List.forall_mem_cons.mpr ⟨tG_19, List.forall_mem_cons.mpr ⟨tG_20, List.forall_mem_cons.mpr ⟨tG_21, List.forall_mem_cons.mpr ⟨tG_22, List.forall_mem_cons.mpr ⟨tG_23, List.forall_mem_cons.mpr ⟨tG_24, List.forall_mem_cons.mpr ⟨tG_25, List.forall_mem_cons.mpr ⟨tG_26, List.forall_mem_cons.mpr ⟨tG_27, List.forall_mem_cons.mpr ⟨tG_28, List.forall_mem_cons.mpr ⟨tG_29, List.forall_mem_cons.mpr ⟨tG_30, List.forall_mem_cons.mpr ⟨tG_31, List.forall_mem_cons.mpr ⟨tG_32, List.forall_mem_cons.mpr ⟨tG_33, List.forall_mem_cons.mpr ⟨tG_34, List.forall_mem_cons.mpr ⟨tG_35, List.forall_mem_cons.mpr ⟨tG_36, List.forall_mem_cons.mpr ⟨tG_37, List.forall_mem_cons.mpr ⟨tG_38, List.forall_mem_cons.mpr ⟨tG_39, List.forall_mem_cons.mpr ⟨tG_40, List.forall_mem_cons.mpr ⟨tG_41, List.forall_mem_cons.mpr ⟨tG_42, List.forall_mem_cons.mpr ⟨tG_43, List.forall_mem_cons.mpr ⟨tG_44, List.forall_mem_cons.mpr ⟨tG_45, List.forall_mem_cons.mpr ⟨tG_46, List.forall_mem_cons.mpr ⟨tG_47, List.forall_mem_cons.mpr ⟨tG_48, List.forall_mem_cons.mpr ⟨tG_49, List.forall_mem_cons.mpr ⟨tG_50, List.forall_mem_cons.mpr ⟨tG_51, List.forall_mem_cons.mpr ⟨tG_52, List.forall_mem_cons.mpr ⟨tG_53, List.forall_mem_cons.mpr ⟨tG_54, List.forall_mem_cons.mpr ⟨tG_55, List.forall_mem_cons.mpr ⟨tG_56, List.forall_mem_cons.mpr ⟨tG_57, List.forall_mem_cons.mpr ⟨tG_58, List.forall_mem_cons.mpr ⟨tG_59, fun _ h => absurd h List.not_mem_nil⟩⟩⟩⟩⟩⟩⟩⟩⟩⟩⟩⟩⟩⟩⟩⟩⟩⟩⟩⟩⟩⟩⟩⟩⟩⟩⟩⟩⟩⟩⟩⟩⟩⟩⟩⟩⟩⟩⟩⟩⟩⟩⟩⟩⟩⟩⟩⟩⟩⟩⟩⟩⟩⟩⟩⟩⟩⟩⟩⟩
theorem tGr_1 : ∀ w ∈ gG_1, w ∈ lw_tbl := List.forall_mem_cons.mpr ⟨tG_60, List.forall_mem_cons.mpr ⟨tG_61, List.forall_mem_cons.mpr ⟨tG_62, List.forall_mem_cons.mpr ⟨tG_63, List.forall_mem_cons.mpr ⟨tG_64, List.forall_mem_cons.mpr ⟨tG_65, List.forall_mem_cons.mpr ⟨tG_66, List.forall_mem_cons.mpr ⟨tG_67, List.forall_mem_cons.mpr ⟨tG_68, List.forall_mem_cons.mpr ⟨tG_69, List.forall_mem_cons.mpr ⟨tG_70, List.forall_mem_cons.mpr ⟨tG_71, List.forall_mem_cons.mpr ⟨tG_72, List.forall_mem_cons.mpr ⟨tG_73, List.forall_mem_cons.mpr ⟨tG_74, List.forall_mem_cons.mpr ⟨tG_75, List.forall_mem_cons.mpr ⟨tG_76, List.forall_mem_cons.mpr ⟨tG_77, List.forall_mem_cons.mpr ⟨tG_78, List.forall_mem_cons.mpr ⟨tG_79, List.forall_mem_cons.mpr ⟨tG_80, List.forall_mem_cons.mpr ⟨tG_81, List.forall_mem_cons.mpr ⟨tG_82, List.forall_mem_cons.mpr ⟨tG_83, List.forall_mem_cons.mpr ⟨tG_84, List.forall_mem_cons.mpr ⟨tG_85, List.forall_mem_cons.mpr ⟨tG_86, List.forall_mem_cons.mpr ⟨tG_87, List.forall_mem_cons.mpr ⟨tG_88, List.forall_mem_cons.mpr ⟨tG_89, List.forall_mem_cons.mpr ⟨tG_90, List.forall_mem_cons.mpr ⟨tG_91, List.forall_mem_cons.mpr ⟨tG_92, List.forall_mem_cons.mpr ⟨tG_93, List.forall_mem_cons.mpr ⟨tG_94, List.forall_mem_cons.mpr ⟨tG_95, List.forall_mem_cons.mpr ⟨tG_96, List.forall_mem_cons.mpr ⟨tG_97, List.forall_mem_cons.mpr ⟨tG_98, List.forall_mem_cons.mpr ⟨tG_99, List.forall_mem_cons.mpr ⟨tG_100, List.forall_mem_cons.mpr ⟨tG_101, List.forall_mem_cons.mpr ⟨tG_102, List.forall_mem_cons.mpr ⟨tG_103, List.forall_mem_cons.mpr ⟨tG_104, List.forall_mem_cons.mpr ⟨tG_105, List.forall_mem_cons.mpr ⟨tG_106, List.forall_mem_cons.mpr ⟨tG_107, List.forall_mem_cons.mpr ⟨tG_108, List.forall_mem_cons.mpr ⟨tG_109, List.forall_mem_cons.mpr ⟨tG_110, List.forall_mem_cons.mpr ⟨tG_111, List.forall_mem_cons.mpr ⟨tG_112, List.forall_mem_cons.mpr ⟨tG_113, List.forall_mem_cons.mpr ⟨tG_114, List.forall_mem_cons.mpr ⟨tG_115, List.forall_mem_cons.mpr ⟨tG_116, List.forall_mem_cons.mpr ⟨tG_117, List.forall_mem_cons.mpr ⟨tG_118, List.forall_mem_cons.mpr ⟨tG_119, fun _ h => absurd h List.not_mem_nil⟩⟩⟩⟩⟩⟩⟩⟩⟩⟩⟩⟩⟩⟩⟩⟩⟩⟩⟩⟩⟩⟩⟩⟩⟩⟩⟩⟩⟩⟩⟩⟩⟩⟩⟩⟩⟩⟩⟩⟩⟩⟩⟩⟩⟩⟩⟩⟩⟩⟩⟩⟩⟩⟩⟩⟩⟩⟩⟩⟩
theorem tGr_2 : ∀ w ∈ gG_2, w ∈ lw_tbl := List.forall_mem_cons.mpr ⟨tG_120, List.forall_mem_cons.mpr ⟨tG_121, List.forall_mem_cons.mpr ⟨tG_122, List.forall_mem_cons.mpr ⟨tG_123, List.forall_mem_cons.mpr ⟨tG_124, List.forall_mem_cons.mpr ⟨tG_125, List.forall_mem_cons.mpr ⟨tG_126, List.forall_mem_cons.mpr ⟨tG_127, List.forall_mem_cons.mpr ⟨tG_128, List.forall_mem_cons.mpr ⟨tG_129, List.forall_mem_cons.mpr ⟨tG_130, List.forall_mem_cons.mpr ⟨tG_131, List.forall_mem_cons.mpr ⟨tG_132, List.forall_mem_cons.mpr ⟨tG_133, List.forall_mem_cons.mpr ⟨tG_134, List.forall_mem_cons.mpr ⟨tG_135, List.forall_mem_cons.mpr ⟨tG_136, List.forall_mem_cons.mpr ⟨tG_137, List.forall_mem_cons.mpr ⟨tG_138, List.forall_mem_cons.mpr ⟨tG_139, List.forall_mem_cons.mpr ⟨tG_140, List.forall_mem_cons.mpr ⟨tG_141, List.forall_mem_cons.mpr ⟨tG_142, List.forall_mem_cons.mpr ⟨tG_143, List.forall_mem_cons.mpr ⟨tG_144, List.forall_mem_cons.mpr ⟨tG_145, List.forall_mem_cons.mpr ⟨tG_146, List.forall_mem_cons.mpr ⟨tG_147, List.forall_mem_cons.mpr ⟨tG_148, List.forall_mem_cons.mpr ⟨tG_149, List.forall_mem_cons.mpr ⟨tG_150, List.forall_mem_cons.mpr ⟨tG_151, List.forall_mem_cons.mpr ⟨tG_152, List.forall_mem_cons.mpr ⟨tG_153, List.forall_mem_cons.mpr ⟨tG_154, List.forall_mem_cons.mpr ⟨tG_155, List.forall_mem_cons.mpr ⟨tG_156, List.forall_mem_cons.mpr ⟨tG_157, List.forall_mem_cons.mpr ⟨tG_158, List.forall_mem_cons.mpr ⟨tG_159, List.forall_mem_cons.mpr ⟨tG_160, List.forall_mem_cons.mpr ⟨tG_161, List.forall_mem_cons.mpr ⟨tG_162, List.forall_mem_cons.mpr ⟨tG_163, List.forall_mem_cons.mpr ⟨tG_164, List.forall_mem_cons.mpr ⟨tG_165, List.forall_mem_cons.mpr ⟨tG_166, List.forall_mem_cons.mpr ⟨tG_167, List.forall_mem_cons.mpr ⟨tG_168, List.forall_mem_cons.mpr ⟨tG_169, List.forall_mem_cons.mpr ⟨tG_170, List.forall_mem_cons.mpr ⟨tG_171, List.forall_mem_cons.mpr ⟨tG_172, List.forall_mem_cons.mpr ⟨tG_173, List.forall_mem_cons.mpr ⟨tG_174, List.forall_mem_cons.mpr ⟨tG_175, List.forall_mem_cons.mpr ⟨tG_176, List.forall_mem_cons.mpr ⟨tG_177, List.forall_mem_cons.mpr ⟨tG_178, List.forall_mem_cons.mpr ⟨tG_179, fun _ h => absurd h List.not_mem_nil⟩⟩⟩⟩⟩⟩⟩⟩⟩⟩⟩⟩⟩⟩⟩⟩⟩⟩⟩⟩⟩⟩⟩⟩⟩⟩⟩⟩⟩⟩⟩⟩⟩⟩⟩⟩⟩⟩⟩⟩⟩⟩⟩⟩⟩⟩⟩⟩⟩⟩⟩⟩⟩⟩⟩⟩⟩⟩⟩⟩
theorem tGr_3 : ∀ w ∈ gG_3, w ∈ lw_tbl := List.forall_mem_cons.mpr ⟨tG_180, List.forall_mem_cons.mpr ⟨tG_181, List.forall_mem_cons.mpr ⟨tG_182, List.forall_mem_cons.mpr ⟨tG_183, List.forall_mem_cons.mpr ⟨tG_184, List.forall_mem_cons.mpr ⟨tG_185, List.forall_mem_cons.mpr ⟨tG_186, List.forall_mem_cons.mpr ⟨tG_187, List.forall_mem_cons.mpr ⟨tG_188, List.forall_mem_cons.mpr ⟨tG_189, List.forall_mem_cons.mpr ⟨tG_190, List.forall_mem_cons.mpr ⟨tG_191, List.forall_mem_cons.mpr ⟨tG_192, List.forall_mem_cons.mpr ⟨tG_193, List.forall_mem_cons.mpr ⟨tG_194, List.forall_mem_cons.mpr ⟨tG_195, List.forall_mem_cons.mpr ⟨tG_196, List.forall_mem_cons.mpr ⟨tG_197, List.forall_mem_cons.mpr ⟨tG_198, List.forall_mem_cons.mpr ⟨tG_199, List.forall_mem_cons.mpr ⟨tG_200, List.forall_mem_cons.mpr ⟨tG_201, List.forall_mem_cons.mpr ⟨tG_202, List.forall_mem_cons.mpr ⟨tG_203, List.forall_mem_cons.mpr ⟨tG_204, List.forall_mem_cons.mpr ⟨tG_205, List.forall_mem_cons.mpr ⟨tG_206, List.forall_mem_cons.mpr ⟨tG_207, List.forall_mem_cons.mpr ⟨tG_208, List.forall_mem_cons.mpr ⟨tG_209, List.forall_mem_cons.mpr ⟨tG_210, List.forall_mem_cons.mpr ⟨tG_211, List.forall_mem_cons.mpr ⟨tG_212, List.forall_mem_cons.mpr ⟨tG_213, List.forall_mem_cons.mpr ⟨tG_214, List.forall_mem_cons.mpr ⟨tG_215, List.forall_mem_cons.mpr ⟨tG_216, List.forall_mem_cons.mpr ⟨tG_217, List.forall_mem_cons.mpr ⟨tG_218, List.forall_mem_cons.mpr ⟨tG_219, List.forall_mem_cons.mpr ⟨tG_220, List.forall_mem_cons.mpr ⟨tG_221, List.forall_mem_cons.mpr ⟨tG_222, List.forall_mem_cons.mpr ⟨tG_223, List.forall_mem_cons.mpr ⟨tG_224, List.forall_mem_cons.mpr ⟨tG_225, List.forall_mem_cons.mpr ⟨tG_226, List.forall_mem_cons.mpr ⟨tG_227, List.forall_mem_cons.mpr ⟨tG_228, List.forall_mem_cons.mpr ⟨tG_229, List.forall_mem_cons.mpr ⟨tG_230, List.forall_mem_cons.mpr ⟨tG_231, List.forall_mem_cons.mpr ⟨tG_232, List.forall_mem_cons.mpr ⟨tG_233, List.forall_mem_cons.mpr ⟨tG_234, List.forall_mem_cons.mpr ⟨tG_235, List.forall_mem_cons.mpr ⟨tG_236, List.forall_mem_cons.mpr ⟨tG_237, List.forall_mem_cons.mpr ⟨tG_238, List.forall_mem_cons.mpr ⟨tG_239, fun _ h => absurd h List.not_mem_nil⟩⟩⟩⟩⟩⟩⟩⟩⟩⟩⟩⟩⟩⟩⟩⟩⟩⟩⟩⟩⟩⟩⟩⟩⟩⟩⟩⟩⟩⟩⟩⟩⟩⟩⟩⟩⟩⟩⟩⟩⟩⟩⟩⟩⟩⟩⟩⟩⟩⟩⟩⟩⟩⟩⟩⟩⟩⟩⟩⟩
theorem tGr_4 : ∀ w ∈ gG_4, w ∈ lw_tbl := List.forall_mem_cons.mpr ⟨tG_240, List.forall_mem_cons.mpr ⟨tG_241, List.forall_mem_cons.mpr ⟨tG_242, List.forall_mem_cons.mpr ⟨tG_243, List.forall_mem_cons.mpr ⟨tG_244, List.forall_mem_cons.mpr ⟨tG_245, List.forall_mem_cons.mpr ⟨tG_246, List.forall_mem_cons.mpr ⟨tG_247, List.forall_mem_cons.mpr ⟨tG_248, List.forall_mem_cons.mpr ⟨tG_249, List.forall_mem_cons.mpr ⟨tG_250, List.forall_mem_cons.mpr ⟨tG_251, List.forall_mem_cons.mpr ⟨tG_252, List.forall_mem_cons.mpr ⟨tG_253, List.forall_mem_cons.mpr ⟨tG_254, List.forall_mem_cons.mpr ⟨tG_255, List.forall_mem_cons.mpr ⟨tG_256, List.forall_mem_cons.mpr ⟨tG_257, List.forall_mem_cons.mpr ⟨tG_258, List.forall_mem_cons.mpr ⟨tG_259, List.forall_mem_cons.mpr ⟨tG_260, List.forall_mem_cons.mpr ⟨tG_261, List.forall_mem_cons.mpr ⟨tG_262, List.forall_mem_cons.mpr ⟨tG_263, List.forall_mem_cons.mpr ⟨tG_264, List.forall_mem_cons.mpr ⟨tG_265, List.forall_mem_cons.mpr ⟨tG_266, List.forall_mem_cons.mpr ⟨tG_267, List.forall_mem_cons.mpr ⟨tG_268, List.forall_mem_cons.mpr ⟨tG_269, List.forall_mem_cons.mpr ⟨tG_270, List.forall_mem_cons.mpr ⟨tG_271, List.forall_mem_cons.mpr ⟨tG_272, List.forall_mem_cons.mpr ⟨tG_273, List.forall_mem_cons.mpr ⟨tG_274, List.forall_mem_cons.mpr ⟨tG_275, List.forall_mem_cons.mpr ⟨tG_276, List.forall_mem_cons.mpr ⟨tG_277, List.forall_mem_cons.mpr ⟨tG_278, List.forall_mem_cons.mpr ⟨tG_279, List.forall_mem_cons.mpr ⟨tG_280, List.forall_mem_cons.mpr ⟨tG_281, List.forall_mem_cons.mpr ⟨tG_282, List.forall_mem_cons.mpr ⟨tG_283, List.forall_mem_cons.mpr ⟨tG_284, List.forall_mem_cons.mpr ⟨tG_285, List.forall_mem_cons.mpr ⟨tG_286, List.forall_mem_cons.mpr ⟨tG_287, List.forall_mem_cons.mpr ⟨tG_288, List.forall_mem_cons.mpr ⟨tG_289, List.forall_mem_cons.mpr ⟨tG_290, List.forall_mem_cons.mpr ⟨tG_291, List.forall_mem_cons.mpr ⟨tG_292, List.forall_mem_cons.mpr ⟨tG_293, List.forall_mem_cons.mpr ⟨tG_294, List.forall_mem_cons.mpr ⟨tG_295, List.forall_mem_cons.mpr ⟨tG_296, List.forall_mem_cons.mpr ⟨tG_297, List.forall_mem_cons.mpr ⟨tG_298, List.forall_mem_cons.mpr ⟨tG_299, fun _ h => absurd h List.not_mem_nil⟩⟩⟩⟩⟩⟩⟩⟩⟩⟩⟩⟩⟩⟩⟩⟩⟩⟩⟩⟩⟩⟩⟩⟩⟩⟩⟩⟩⟩⟩⟩⟩⟩⟩⟩⟩⟩⟩⟩⟩⟩⟩⟩⟩⟩⟩⟩⟩⟩⟩⟩⟩⟩⟩⟩⟩⟩⟩⟩⟩
theorem tGr_5 : ∀ w ∈ gG_5, w ∈ lw_tbl := List.forall_mem_cons.mpr ⟨tG_300, List.forall_mem_cons.mpr ⟨tG_301, List.forall_mem_cons.mpr ⟨tG_302, List.forall_mem_cons.mpr ⟨tG_303, List.forall_mem_cons.mpr ⟨tG_304, List.forall_mem_cons.mpr ⟨tG_305, List.forall_mem_cons.mpr ⟨tG_306, List.forall_mem_cons.mpr ⟨tG_307, List.forall_mem_cons.mpr ⟨tG_308, List.forall_mem_cons.mpr ⟨tG_309, List.forall_mem_cons.mpr ⟨tG_310, List.forall_mem_cons.mpr ⟨tG_311, List.forall_mem_cons.mpr ⟨tG_312, List.forall_mem_cons.mpr ⟨tG_313, List.forall_mem_cons.mpr ⟨tG_314, List.forall_mem_cons.mpr ⟨tG_315, List.forall_mem_cons.mpr ⟨tG_316, List.forall_mem_cons.mpr ⟨tG_317, List.forall_mem_cons.mpr ⟨tG_318, List.forall_mem_cons.mpr ⟨tG_319, List.forall_mem_cons.mpr ⟨tG_320, List.forall_mem_cons.mpr ⟨tG_321, List.forall_mem_cons.mpr ⟨tG_322, List.forall_mem_cons.mpr ⟨tG_323, List.forall_mem_cons.mpr ⟨tG_324, List.forall_mem_cons.mpr ⟨tG_325, List.forall_mem_cons.mpr ⟨tG_326, fun _ h => absurd h List.not_mem_nil⟩⟩⟩⟩⟩⟩⟩⟩⟩⟩⟩⟩⟩⟩⟩⟩⟩⟩⟩⟩⟩⟩⟩⟩⟩⟩⟩
theorem tGl_X0 : ∀ w ∈ wsX00, w ∈ lw_tbl := by decide +kernel
theorem tGl_X1 : ∀ w ∈ wsX10, w ∈ lw_tbl := by decide +kernel
theorem tGl_X2 : ∀ w ∈ wsX20, w ∈ lw_tbl := by decide +kernel
theorem tGl_X3 : ∀ w ∈ wsX30, w ∈ lw_tbl := by decide +kernel
theorem tGl_X4 : ∀ w ∈ wsX40, w ∈ lw_tbl := by decide +kernel
theorem gG_tbl : ∀ w ∈ gG, w ∈ lw_tbl := List.forall_mem_append.mpr ⟨tGr_0, List.forall_mem_append.mpr ⟨tGr_1, List.forall_mem_append.mpr ⟨tGr_2, List.forall_mem_append.mpr ⟨tGr_3, List.forall_mem_append.mpr ⟨tGr_4, List.forall_mem_append.mpr ⟨tGr_5, List.forall_mem_append.mpr ⟨List.forall_mem_append.mpr ⟨List.forall_mem_append.mpr ⟨List.forall_mem_append.mpr ⟨tGl_X0, tGl_X1⟩, tGl_X2⟩, tGl_X3⟩, tGl_X4⟩⟩⟩⟩⟩⟩⟩
theorem gG_law {b : Cond} (hb : b ∈ gG) : GoodIn lw_tbl (b :: gG) := by
  intro w hw
  have hm : w ∈ gG := by
    rcases List.mem_cons.mp hw with h | h
    · rw [h]; exact hb
    · exact h
  exact ⟨gG_tbl w hm, good_of_word (List.all_eq_true.mp gG_ok w hm)⟩
theorem glX3_init : GoodIn lw_tbl wsX3_init := gG_law mG_32
theorem glX2_init : GoodIn lw_tbl wsX2_init := gG_law mG_41
theorem glX1_init : GoodIn lw_tbl wsX1_init := gG_law mG_50
theorem glX0_init : GoodIn lw_tbl wsX0_init := gG_law mG_64
theorem glX3_set : GoodIn lw_tbl wsX3_set := gG_law mG_84
theorem glX3_isParameter : GoodIn lw_tbl wsX3_isParameter := gG_law mG_87
theorem glX3_add : GoodIn lw_tbl wsX3_add := gG_law mG_91
theorem glX3_isId : GoodIn lw_tbl wsX3_isId := gG_law mG_94
theorem glX3_isEvent : GoodIn lw_tbl wsX3_isEvent := gG_law mG_97
theorem glX3_placeOf : GoodIn lw_tbl wsX3_placeOf := gG_law mG_100
theorem glX3_openPlaceFor : GoodIn lw_tbl wsX3_openPlaceFor := gG_law mG_103
theorem glX1_begin : GoodIn lw_tbl wsX1_begin := gG_law mG_105
theorem glX1_turn : GoodIn lw_tbl wsX1_turn := gG_law mG_108
theorem glX3_remove : GoodIn lw_tbl wsX3_remove := gG_law mG_112
theorem glX3_closePlace : GoodIn lw_tbl wsX3_closePlace := gG_law mG_115
theorem glX3_enable : GoodIn lw_tbl wsX3_enable := gG_law mG_119
theorem glX3_watch : GoodIn lw_tbl wsX3_watch := gG_law mG_123
theorem glX1_breaksAt : GoodIn lw_tbl wsX1_breaksAt := gG_law mG_125
theorem glX3_waitOrLose : GoodIn lw_tbl wsX3_waitOrLose := gG_law mG_128
theorem glX2_append : GoodIn lw_tbl wsX2_append := gG_law mG_130
theorem glX3_linked : GoodIn lw_tbl wsX3_linked := gG_law mG_134
theorem glX3_raise : GoodIn lw_tbl wsX3_raise := gG_law mG_138
theorem glX3_work : GoodIn lw_tbl wsX3_work := gG_law mG_142
theorem glX2_firstEvent : GoodIn lw_tbl wsX2_firstEvent := gG_law mG_144
theorem glX2_firstNumber : GoodIn lw_tbl wsX2_firstNumber := gG_law mG_146
theorem glX2_takeFirst : GoodIn lw_tbl wsX2_takeFirst := gG_law mG_148
theorem glX3_lose : GoodIn lw_tbl wsX3_lose := gG_law mG_152
theorem glX2_empty : GoodIn lw_tbl wsX2_empty := gG_law mG_154
theorem glX3_tell : GoodIn lw_tbl wsX3_tell := gG_law mG_158
theorem glX3_put : GoodIn lw_tbl wsX3_put := gG_law mG_162
theorem glX3_act : GoodIn lw_tbl wsX3_act := gG_law mG_166
theorem glX0_hasAction : GoodIn lw_tbl wsX0_hasAction := gG_law mG_168
theorem glX0_takeAction : GoodIn lw_tbl wsX0_takeAction := gG_law mG_170
theorem glX3_drop : GoodIn lw_tbl wsX3_drop := gG_law mG_177
theorem glX3_actionFailure : GoodIn lw_tbl wsX3_actionFailure := gG_law mG_180
theorem glX3_arm : GoodIn lw_tbl wsX3_arm := gG_law mG_184
theorem glX3_limit : GoodIn lw_tbl wsX3_limit := gG_law mG_188
theorem glX1_tellOf : GoodIn lw_tbl wsX1_tellOf := gG_law mG_190
theorem glX3_oneIf : GoodIn lw_tbl wsX3_oneIf := gG_law mG_192
theorem glX3_event : GoodIn lw_tbl wsX3_event := gG_law mG_196
theorem glX0_tellOf : GoodIn lw_tbl wsX0_tellOf := gG_law mG_198
theorem glX3_actionAt : GoodIn lw_tbl wsX3_actionAt := gG_law mG_202
theorem glX0_byteAt : GoodIn lw_tbl wsX0_byteAt := gG_law mG_204
theorem glX3_count : GoodIn lw_tbl wsX3_count := gG_law mG_208
theorem glX4_init : GoodIn lw_tbl wsX4_init := gG_law mG_213
theorem glX4_set : GoodIn lw_tbl wsX4_set := gG_law mG_243
theorem glX4_add : GoodIn lw_tbl wsX4_add := gG_law mG_247
theorem glX4_isIn : GoodIn lw_tbl wsX4_isIn := gG_law mG_250
theorem glX4_limits : GoodIn lw_tbl wsX4_limits := gG_law mG_253
theorem glX4_remove : GoodIn lw_tbl wsX4_remove := gG_law mG_257
theorem glX4_isThere : GoodIn lw_tbl wsX4_isThere := gG_law mG_260
theorem glX4_enable : GoodIn lw_tbl wsX4_enable := gG_law mG_264
theorem glX4_watch : GoodIn lw_tbl wsX4_watch := gG_law mG_268
theorem glX4_waits : GoodIn lw_tbl wsX4_waits := gG_law mG_271
theorem glX4_linked : GoodIn lw_tbl wsX4_linked := gG_law mG_275
theorem glX4_raise : GoodIn lw_tbl wsX4_raise := gG_law mG_279
theorem glX4_isEvent : GoodIn lw_tbl wsX4_isEvent := gG_law mG_282
theorem glX4_work : GoodIn lw_tbl wsX4_work := gG_law mG_286
theorem glX4_lose : GoodIn lw_tbl wsX4_lose := gG_law mG_290
theorem glX4_tell : GoodIn lw_tbl wsX4_tell := gG_law mG_294
theorem glX4_put : GoodIn lw_tbl wsX4_put := gG_law mG_298
theorem glX4_act : GoodIn lw_tbl wsX4_act := gG_law mG_302
theorem glX4_drop : GoodIn lw_tbl wsX4_drop := gG_law mG_306
theorem glX4_arm : GoodIn lw_tbl wsX4_arm := gG_law mG_310
theorem glX4_limit : GoodIn lw_tbl wsX4_limit := gG_law mG_314
theorem glX4_event : GoodIn lw_tbl wsX4_event := gG_law mG_318
theorem glX4_actionAt : GoodIn lw_tbl wsX4_actionAt := gG_law mG_322
theorem glX4_count : GoodIn lw_tbl wsX4_count := gG_law mG_326
