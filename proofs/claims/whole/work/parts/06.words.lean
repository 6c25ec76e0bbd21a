theorem qw_0 : Cond.selects RX7 yX7_fails yX7_fails ∈ sp_tbl := sp_in (List.mem_of_getElem? (i := 0) (by decide +kernel)) rfl
theorem qw_1 : Cond.selects RX6 yX6_parseHeights yX6_parseHeights ∈ sp_tbl := sp_in (List.mem_of_getElem? (i := 1) (by decide +kernel)) rfl
theorem qw_2 : Cond.selects RX6 yX6_accept yX6_accept ∈ sp_tbl := sp_in (List.mem_of_getElem? (i := 2) (by decide +kernel)) rfl
theorem qw_3 : Cond.selects RX6 yX6_peek yX6_peek ∈ sp_tbl := sp_in (List.mem_of_getElem? (i := 3) (by decide +kernel)) rfl
theorem qw_4 : Cond.selects RX6 yX6_parseNumber yX6_parseNumber ∈ sp_tbl := sp_in (List.mem_of_getElem? (i := 4) (by decide +kernel)) rfl
theorem qw_5 : Cond.selects RX6 yX6_parseItem yX6_parseItem ∈ sp_tbl := sp_in (List.mem_of_getElem? (i := 5) (by decide +kernel)) rfl
theorem qw_6 : Cond.selects RX6 yX6_parseClearances yX6_parseClearances ∈ sp_tbl := sp_in (List.mem_of_getElem? (i := 6) (by decide +kernel)) rfl
theorem qw_7 : Cond.selects RX6 yX6_parsePrice yX6_parsePrice ∈ sp_tbl := sp_in (List.mem_of_getElem? (i := 7) (by decide +kernel)) rfl
theorem qw_8 : Cond.selects RX6 yX6_parseBar yX6_parseBar ∈ sp_tbl := sp_in (List.mem_of_getElem? (i := 8) (by decide +kernel)) rfl
theorem qw_9 : Cond.selects RX6 yX6_parseSetting yX6_parseSetting ∈ sp_tbl := sp_in (List.mem_of_getElem? (i := 9) (by decide +kernel)) rfl
theorem qw_10 : Cond.selects RX7 yX7_saveForChange yX7_saveForChange ∈ sp_tbl := sp_in (List.mem_of_getElem? (i := 10) (by decide +kernel)) rfl
theorem qw_11 : Cond.selects RX7 yX7_forgetSearch yX7_forgetSearch ∈ sp_tbl := sp_in (List.mem_of_getElem? (i := 11) (by decide +kernel)) rfl
theorem qw_12 : Cond.selects RX0 yX0_inspect yX0_inspect ∈ sp_tbl := sp_in (List.mem_of_getElem? (i := 12) (by decide +kernel)) rfl
theorem qw_13 : Cond.selects RX0 yX0_add yX0_add ∈ sp_tbl := sp_in (List.mem_of_getElem? (i := 13) (by decide +kernel)) rfl
theorem qw_14 : Cond.selects RX7 yX7_keepFraction yX7_keepFraction ∈ sp_tbl := sp_in (List.mem_of_getElem? (i := 14) (by decide +kernel)) rfl
theorem qw_15 : Cond.selects RX7 yX7_findCheapest yX7_findCheapest ∈ sp_tbl := sp_in (List.mem_of_getElem? (i := 15) (by decide +kernel)) rfl
theorem qw_16 : Cond.selects RX4 yX4_weighTowers yX4_weighTowers ∈ sp_tbl := sp_in (List.mem_of_getElem? (i := 16) (by decide +kernel)) rfl
theorem qw_17 : Cond.selects RX4 yX4_tallySpansFrom yX4_tallySpansFrom ∈ sp_tbl := sp_in (List.mem_of_getElem? (i := 17) (by decide +kernel)) rfl
theorem qw_18 : Cond.selects RX4 yX4_tallySpan yX4_tallySpan ∈ sp_tbl := sp_in (List.mem_of_getElem? (i := 18) (by decide +kernel)) rfl
theorem qw_19 : Cond.selects RX4 yX4_mayStand yX4_mayStand ∈ sp_tbl := sp_in (List.mem_of_getElem? (i := 19) (by decide +kernel)) rfl
theorem qw_20 : Cond.selects RX4 yX4_addAnchor yX4_addAnchor ∈ sp_tbl := sp_in (List.mem_of_getElem? (i := 20) (by decide +kernel)) rfl
theorem qw_21 : Cond.selects RX4 yX4_addFollowing yX4_addFollowing ∈ sp_tbl := sp_in (List.mem_of_getElem? (i := 21) (by decide +kernel)) rfl
theorem qw_22 : Cond.selects RX4 yX4_tallyOpen yX4_tallyOpen ∈ sp_tbl := sp_in (List.mem_of_getElem? (i := 22) (by decide +kernel)) rfl
theorem qw_23 : Cond.selects RX4 yX4_tallyPlans yX4_tallyPlans ∈ sp_tbl := sp_in (List.mem_of_getElem? (i := 23) (by decide +kernel)) rfl
theorem qw_24 : Cond.selects RX4 yX4_pickFirst yX4_pickFirst ∈ sp_tbl := sp_in (List.mem_of_getElem? (i := 24) (by decide +kernel)) rfl
theorem qw_25 : Cond.selects RX4 yX4_pick yX4_pick ∈ sp_tbl := sp_in (List.mem_of_getElem? (i := 25) (by decide +kernel)) rfl
theorem qw_26 : Cond.selects RX4 yX4_pickNext yX4_pickNext ∈ sp_tbl := sp_in (List.mem_of_getElem? (i := 26) (by decide +kernel)) rfl
theorem qw_27 : Cond.selects RX4 yX4_weightWith yX4_weightWith ∈ sp_tbl := sp_in (List.mem_of_getElem? (i := 27) (by decide +kernel)) rfl
theorem qw_28 : Cond.selects RX7 yX7_findPassages yX7_findPassages ∈ sp_tbl := sp_in (List.mem_of_getElem? (i := 28) (by decide +kernel)) rfl
theorem qw_29 : Cond.selects RX3 yX3_traceFrom yX3_traceFrom ∈ sp_tbl := sp_in (List.mem_of_getElem? (i := 29) (by decide +kernel)) rfl
theorem qw_30 : Cond.selects RX3 yX3_leastInto yX3_leastInto ∈ sp_tbl := sp_in (List.mem_of_getElem? (i := 30) (by decide +kernel)) rfl
theorem qw_31 : Cond.selects RX8 yX8_no yX8_no ∈ sp_tbl := sp_in (List.mem_of_getElem? (i := 31) (by decide +kernel)) rfl
theorem qw_32 : Cond.selects RX8 yX8_bad yX8_bad ∈ sp_tbl := sp_in (List.mem_of_getElem? (i := 32) (by decide +kernel)) rfl
theorem qw_33 : Cond.selects RX8 yX8_readsItem yX8_readsItem ∈ sp_tbl := sp_in (List.mem_of_getElem? (i := 33) (by decide +kernel)) rfl
theorem qw_34 : Cond.selects RX8 yX8_here yX8_here ∈ sp_tbl := sp_in (List.mem_of_getElem? (i := 34) (by decide +kernel)) rfl
theorem qw_35 : Cond.selects RX8 yX8_readsGrounds yX8_readsGrounds ∈ sp_tbl := sp_in (List.mem_of_getElem? (i := 35) (by decide +kernel)) rfl
theorem qw_36 : Cond.selects RX8 yX8_isNumber yX8_isNumber ∈ sp_tbl := sp_in (List.mem_of_getElem? (i := 36) (by decide +kernel)) rfl
theorem qw_37 : Cond.selects RX8 yX8_comes yX8_comes ∈ sp_tbl := sp_in (List.mem_of_getElem? (i := 37) (by decide +kernel)) rfl
theorem qw_38 : Cond.selects RX8 yX8_readsNeed yX8_readsNeed ∈ sp_tbl := sp_in (List.mem_of_getElem? (i := 38) (by decide +kernel)) rfl
theorem qw_39 : Cond.selects RX8 yX8_readsPrice yX8_readsPrice ∈ sp_tbl := sp_in (List.mem_of_getElem? (i := 39) (by decide +kernel)) rfl
theorem qw_40 : Cond.selects RX8 yX8_readsBarred yX8_readsBarred ∈ sp_tbl := sp_in (List.mem_of_getElem? (i := 40) (by decide +kernel)) rfl
theorem qw_41 : Cond.selects RX8 yX8_readsTwo yX8_readsTwo ∈ sp_tbl := sp_in (List.mem_of_getElem? (i := 41) (by decide +kernel)) rfl
theorem qw_42 : Cond.selects RX8 yX8_readsOne yX8_readsOne ∈ sp_tbl := sp_in (List.mem_of_getElem? (i := 42) (by decide +kernel)) rfl
theorem qw_43 : Cond.selects RX8 yX8_keepsState yX8_keepsState ∈ sp_tbl := sp_in (List.mem_of_getElem? (i := 43) (by decide +kernel)) rfl
theorem qw_44 : Cond.selects RX8 yX8_isPlace yX8_isPlace ∈ sp_tbl := sp_in (List.mem_of_getElem? (i := 44) (by decide +kernel)) rfl
theorem qw_45 : Cond.selects RX8 yX8_placeIs yX8_placeIs ∈ sp_tbl := sp_in (List.mem_of_getElem? (i := 45) (by decide +kernel)) rfl
theorem qw_46 : Cond.selects RX8 yX8_towers yX8_towers ∈ sp_tbl := sp_in (List.mem_of_getElem? (i := 46) (by decide +kernel)) rfl
theorem qw_47 : Cond.selects RX8 yX8_has yX8_has ∈ sp_tbl := sp_in (List.mem_of_getElem? (i := 47) (by decide +kernel)) rfl
theorem qw_48 : Cond.selects RX8 yX8_flaws yX8_flaws ∈ sp_tbl := sp_in (List.mem_of_getElem? (i := 48) (by decide +kernel)) rfl
theorem qw_49 : Cond.selects RX8 yX8_isFlaw yX8_isFlaw ∈ sp_tbl := sp_in (List.mem_of_getElem? (i := 49) (by decide +kernel)) rfl
theorem qw_50 : Cond.selects RX8 yX8_beside yX8_beside ∈ sp_tbl := sp_in (List.mem_of_getElem? (i := 50) (by decide +kernel)) rfl
theorem qw_51 : Cond.selects RX8 yX8_holds yX8_holds ∈ sp_tbl := sp_in (List.mem_of_getElem? (i := 51) (by decide +kernel)) rfl
theorem qw_52 : Cond.selects RX8 yX8_pullOf yX8_pullOf ∈ sp_tbl := sp_in (List.mem_of_getElem? (i := 52) (by decide +kernel)) rfl
theorem qw_53 : Cond.selects RX8 yX8_top yX8_top ∈ sp_tbl := sp_in (List.mem_of_getElem? (i := 53) (by decide +kernel)) rfl
theorem qw_54 : Cond.selects RX8 yX8_height yX8_height ∈ sp_tbl := sp_in (List.mem_of_getElem? (i := 54) (by decide +kernel)) rfl
theorem qw_55 : Cond.selects RX8 yX8_isClear yX8_isClear ∈ sp_tbl := sp_in (List.mem_of_getElem? (i := 55) (by decide +kernel)) rfl
theorem qw_56 : Cond.selects RX8 yX8_roomOf yX8_roomOf ∈ sp_tbl := sp_in (List.mem_of_getElem? (i := 56) (by decide +kernel)) rfl
theorem qw_57 : Cond.selects RX8 yX8_flawIs yX8_flawIs ∈ sp_tbl := sp_in (List.mem_of_getElem? (i := 57) (by decide +kernel)) rfl
theorem qw_58 : Cond.selects RX8 yX8_says yX8_says ∈ sp_tbl := sp_in (List.mem_of_getElem? (i := 58) (by decide +kernel)) rfl
theorem qw_59 : Cond.selects RX8 yX8_laysLeast yX8_laysLeast ∈ sp_tbl := sp_in (List.mem_of_getElem? (i := 59) (by decide +kernel)) rfl
theorem qw_60 : Cond.selects RX8 yX8_laysRests yX8_laysRests ∈ sp_tbl := sp_in (List.mem_of_getElem? (i := 60) (by decide +kernel)) rfl
theorem qw_61 : Cond.selects RX8 yX8_lastFrom yX8_lastFrom ∈ sp_tbl := sp_in (List.mem_of_getElem? (i := 61) (by decide +kernel)) rfl
theorem qw_62 : Cond.selects RX8 yX8_laysRest yX8_laysRest ∈ sp_tbl := sp_in (List.mem_of_getElem? (i := 62) (by decide +kernel)) rfl
theorem qw_63 : Cond.selects RX8 yX8_maySpan yX8_maySpan ∈ sp_tbl := sp_in (List.mem_of_getElem? (i := 63) (by decide +kernel)) rfl
theorem qw_64 : Cond.selects RX8 yX8_mayStand yX8_mayStand ∈ sp_tbl := sp_in (List.mem_of_getElem? (i := 64) (by decide +kernel)) rfl
theorem qw_65 : Cond.selects RX8 yX8_cost yX8_cost ∈ sp_tbl := sp_in (List.mem_of_getElem? (i := 65) (by decide +kernel)) rfl
theorem qw_66 : Cond.selects RX8 yX8_takesRest yX8_takesRest ∈ sp_tbl := sp_in (List.mem_of_getElem? (i := 66) (by decide +kernel)) rfl
theorem qw_67 : Cond.selects RX8 yX8_cheapestIs yX8_cheapestIs ∈ sp_tbl := sp_in (List.mem_of_getElem? (i := 67) (by decide +kernel)) rfl
theorem qw_68 : Cond.selects RX8 yX8_laysSpots yX8_laysSpots ∈ sp_tbl := sp_in (List.mem_of_getElem? (i := 68) (by decide +kernel)) rfl
theorem qw_69 : Cond.selects RX8 yX8_laysThrough yX8_laysThrough ∈ sp_tbl := sp_in (List.mem_of_getElem? (i := 69) (by decide +kernel)) rfl
theorem qw_70 : Cond.selects RX8 yX8_laysAhead yX8_laysAhead ∈ sp_tbl := sp_in (List.mem_of_getElem? (i := 70) (by decide +kernel)) rfl
theorem qw_71 : Cond.selects RX8 yX8_allOf yX8_allOf ∈ sp_tbl := sp_in (List.mem_of_getElem? (i := 71) (by decide +kernel)) rfl
theorem qw_72 : Cond.selects RX8 yX8_costOfPlan yX8_costOfPlan ∈ sp_tbl := sp_in (List.mem_of_getElem? (i := 72) (by decide +kernel)) rfl
theorem qw_73 : Cond.selects RX8 yX8_countOf yX8_countOf ∈ sp_tbl := sp_in (List.mem_of_getElem? (i := 73) (by decide +kernel)) rfl
theorem qw_74 : Cond.selects RX8 yX8_toldOf yX8_toldOf ∈ sp_tbl := sp_in (List.mem_of_getElem? (i := 74) (by decide +kernel)) rfl
theorem qw_76 : Cond.initialized RX7 ∈ sp_tbl := sp_in (List.mem_of_getElem? (i := 76) (by decide +kernel)) rfl
theorem qw_77 : Cond.initialized RX2 ∈ sp_tbl := sp_in (List.mem_of_getElem? (i := 77) (by decide +kernel)) rfl
theorem qw_78 : Cond.initialized RX1 ∈ sp_tbl := sp_in (List.mem_of_getElem? (i := 78) (by decide +kernel)) rfl
theorem qw_79 : Cond.initialized RX6 ∈ sp_tbl := sp_in (List.mem_of_getElem? (i := 79) (by decide +kernel)) rfl
theorem qw_80 : Cond.initialized RX0 ∈ sp_tbl := sp_in (List.mem_of_getElem? (i := 80) (by decide +kernel)) rfl
theorem qw_81 : Cond.initialized RX4 ∈ sp_tbl := sp_in (List.mem_of_getElem? (i := 81) (by decide +kernel)) rfl
theorem qw_82 : Cond.initialized RX5 ∈ sp_tbl := sp_in (List.mem_of_getElem? (i := 82) (by decide +kernel)) rfl
theorem qw_83 : Cond.initialized RX3 ∈ sp_tbl := sp_in (List.mem_of_getElem? (i := 83) (by decide +kernel)) rfl
theorem qw_84 : Cond.initialized RX8 ∈ sp_tbl := sp_in (List.mem_of_getElem? (i := 84) (by decide +kernel)) rfl
theorem qw_85 : Cond.initialized "java/lang/System" ∈ sp_tbl := sp_in (List.mem_of_getElem? (i := 85) (by decide +kernel)) rfl
theorem qw_86 : Cond.initialized "java/lang/Math" ∈ sp_tbl := sp_in (List.mem_of_getElem? (i := 86) (by decide +kernel)) rfl
theorem qw_104 : Cond.instanceMethod yX2_restart ∈ sp_tbl := sp_in (List.mem_of_getElem? (i := 104) (by decide +kernel)) rfl
theorem qw_105 : Cond.selects RX2 yX2_restart yX2_restart ∈ sp_tbl := sp_in (List.mem_of_getElem? (i := 105) (by decide +kernel)) rfl
theorem qw_106 : Cond.code yX2_restart cX2_restart 3 none ∈ sp_tbl := sp_in (List.mem_of_getElem? (i := 106) (by decide +kernel)) rfl
theorem qw_107 : Cond.fieldLinkNest RX2 27 "SpanSpotter" (sp_sn 0) "[I" RX7 ∈ sp_nest := sp_inN (List.mem_of_getElem? (i := 107) (by decide +kernel)) rfl
theorem qw_109 : Cond.fieldLinkNest RX2 30 "SpanSpotter" (sp_sn 2) "[I" RX7 ∈ sp_nest := sp_inN (List.mem_of_getElem? (i := 109) (by decide +kernel)) rfl
theorem qw_111 : Cond.fieldLink RX2 23 RX2 (TX2 0).2.1 (TX2 0).2.2.1 ∈ sp_tbl := sp_in (List.mem_of_getElem? (i := 111) (by decide +kernel)) rfl
theorem qw_112 : Cond.fieldLinkNest RX3 32 RX2 (TX2 0).2.1 (TX2 0).2.2.1 RX7 ∈ sp_nest := sp_inN (List.mem_of_getElem? (i := 112) (by decide +kernel)) rfl
theorem qw_113 : Cond.fieldLinkNest RX0 26 RX2 (TX2 0).2.1 (TX2 0).2.2.1 RX7 ∈ sp_nest := sp_inN (List.mem_of_getElem? (i := 113) (by decide +kernel)) rfl
theorem qw_114 : Cond.fieldLinkNest RX4 65 RX2 (TX2 0).2.1 (TX2 0).2.2.1 RX7 ∈ sp_nest := sp_inN (List.mem_of_getElem? (i := 114) (by decide +kernel)) rfl
theorem qw_115 : Cond.fieldLinkNest RX6 54 RX2 (TX2 0).2.1 (TX2 0).2.2.1 RX7 ∈ sp_nest := sp_inN (List.mem_of_getElem? (i := 115) (by decide +kernel)) rfl
theorem qw_116 : Cond.fieldLinkNest RX7 211 RX2 (TX2 0).2.1 (TX2 0).2.2.1 RX7 ∈ sp_nest := sp_inN (List.mem_of_getElem? (i := 116) (by decide +kernel)) rfl
theorem qw_117 : Cond.fieldLink RX2 11 RX2 (TX2 1).2.1 (TX2 1).2.2.1 ∈ sp_tbl := sp_in (List.mem_of_getElem? (i := 117) (by decide +kernel)) rfl
theorem qw_118 : Cond.fieldLinkNest RX0 35 RX2 (TX2 1).2.1 (TX2 1).2.2.1 RX7 ∈ sp_nest := sp_inN (List.mem_of_getElem? (i := 118) (by decide +kernel)) rfl
theorem qw_119 : Cond.fieldLinkNest RX4 85 RX2 (TX2 1).2.1 (TX2 1).2.2.1 RX7 ∈ sp_nest := sp_inN (List.mem_of_getElem? (i := 119) (by decide +kernel)) rfl
theorem qw_120 : Cond.fieldLinkNest RX6 50 RX2 (TX2 1).2.1 (TX2 1).2.2.1 RX7 ∈ sp_nest := sp_inN (List.mem_of_getElem? (i := 120) (by decide +kernel)) rfl
theorem qw_121 : Cond.fieldLinkNest RX7 98 RX2 (TX2 1).2.1 (TX2 1).2.2.1 RX7 ∈ sp_nest := sp_inN (List.mem_of_getElem? (i := 121) (by decide +kernel)) rfl
theorem qw_122 : Cond.fieldLink RX2 16 RX2 (TX2 2).2.1 (TX2 2).2.2.1 ∈ sp_tbl := sp_in (List.mem_of_getElem? (i := 122) (by decide +kernel)) rfl
theorem qw_123 : Cond.fieldLinkNest RX4 53 RX2 (TX2 2).2.1 (TX2 2).2.2.1 RX7 ∈ sp_nest := sp_inN (List.mem_of_getElem? (i := 123) (by decide +kernel)) rfl
theorem qw_124 : Cond.fieldLinkNest RX0 58 RX2 (TX2 2).2.1 (TX2 2).2.2.1 RX7 ∈ sp_nest := sp_inN (List.mem_of_getElem? (i := 124) (by decide +kernel)) rfl
theorem qw_125 : Cond.fieldLinkNest RX3 73 RX2 (TX2 2).2.1 (TX2 2).2.2.1 RX7 ∈ sp_nest := sp_inN (List.mem_of_getElem? (i := 125) (by decide +kernel)) rfl
theorem qw_126 : Cond.fieldLinkNest RX7 110 RX2 (TX2 2).2.1 (TX2 2).2.2.1 RX7 ∈ sp_nest := sp_inN (List.mem_of_getElem? (i := 126) (by decide +kernel)) rfl
theorem qw_127 : Cond.fieldLinkNest RX6 83 RX2 (TX2 2).2.1 (TX2 2).2.2.1 RX7 ∈ sp_nest := sp_inN (List.mem_of_getElem? (i := 127) (by decide +kernel)) rfl
theorem qw_145 : Cond.fieldLink RX1 11 RX1 (TX1 0).2.1 (TX1 0).2.2.1 ∈ sp_tbl := sp_in (List.mem_of_getElem? (i := 145) (by decide +kernel)) rfl
theorem qw_146 : Cond.fieldLink RX1 22 RX1 (TX1 1).2.1 (TX1 1).2.2.1 ∈ sp_tbl := sp_in (List.mem_of_getElem? (i := 146) (by decide +kernel)) rfl
theorem qw_147 : Cond.fieldLink RX1 18 RX1 (TX1 2).2.1 (TX1 2).2.2.1 ∈ sp_tbl := sp_in (List.mem_of_getElem? (i := 147) (by decide +kernel)) rfl
theorem qw_148 : Cond.fieldLinkNest RX7 217 RX1 (TX1 2).2.1 (TX1 2).2.2.1 RX7 ∈ sp_nest := sp_inN (List.mem_of_getElem? (i := 148) (by decide +kernel)) rfl
theorem qw_164 : Cond.fieldLink RX6 9 RX6 (TX6 0).2.1 (TX6 0).2.2.1 ∈ sp_tbl := sp_in (List.mem_of_getElem? (i := 164) (by decide +kernel)) rfl
theorem qw_165 : Cond.fieldLink RX6 18 RX6 (TX6 1).2.1 (TX6 1).2.2.1 ∈ sp_tbl := sp_in (List.mem_of_getElem? (i := 165) (by decide +kernel)) rfl
theorem qw_166 : Cond.fieldLinkNest RX7 85 RX6 (TX6 1).2.1 (TX6 1).2.2.1 RX7 ∈ sp_nest := sp_inN (List.mem_of_getElem? (i := 166) (by decide +kernel)) rfl
theorem qw_167 : Cond.fieldLink RX6 22 RX6 (TX6 2).2.1 (TX6 2).2.2.1 ∈ sp_tbl := sp_in (List.mem_of_getElem? (i := 167) (by decide +kernel)) rfl
theorem qw_168 : Cond.fieldLinkNest RX7 67 RX6 (TX6 2).2.1 (TX6 2).2.2.1 RX7 ∈ sp_nest := sp_inN (List.mem_of_getElem? (i := 168) (by decide +kernel)) rfl
theorem qw_169 : Cond.fieldLink RX6 29 RX6 (TX6 3).2.1 (TX6 3).2.2.1 ∈ sp_tbl := sp_in (List.mem_of_getElem? (i := 169) (by decide +kernel)) rfl
theorem qw_170 : Cond.fieldLinkNest RX7 79 RX6 (TX6 4).2.1 (TX6 4).2.2.1 RX7 ∈ sp_nest := sp_inN (List.mem_of_getElem? (i := 170) (by decide +kernel)) rfl
theorem qw_171 : Cond.fieldLink RX6 74 RX6 (TX6 4).2.1 (TX6 4).2.2.1 ∈ sp_tbl := sp_in (List.mem_of_getElem? (i := 171) (by decide +kernel)) rfl
theorem qw_189 : Cond.fieldLink RX0 11 RX0 (TX0 0).2.1 (TX0 0).2.2.1 ∈ sp_tbl := sp_in (List.mem_of_getElem? (i := 189) (by decide +kernel)) rfl
theorem qw_190 : Cond.fieldLinkNest RX7 129 RX0 (TX0 0).2.1 (TX0 0).2.2.1 RX7 ∈ sp_nest := sp_inN (List.mem_of_getElem? (i := 190) (by decide +kernel)) rfl
theorem qw_191 : Cond.fieldLink RX0 15 RX0 (TX0 1).2.1 (TX0 1).2.2.1 ∈ sp_tbl := sp_in (List.mem_of_getElem? (i := 191) (by decide +kernel)) rfl
theorem qw_192 : Cond.fieldLinkNest RX7 132 RX0 (TX0 1).2.1 (TX0 1).2.2.1 RX7 ∈ sp_nest := sp_inN (List.mem_of_getElem? (i := 192) (by decide +kernel)) rfl
theorem qw_193 : Cond.fieldLink RX0 22 RX0 (TX0 2).2.1 (TX0 2).2.2.1 ∈ sp_tbl := sp_in (List.mem_of_getElem? (i := 193) (by decide +kernel)) rfl
theorem qw_194 : Cond.fieldLinkNest RX7 126 RX0 (TX0 2).2.1 (TX0 2).2.2.1 RX7 ∈ sp_nest := sp_inN (List.mem_of_getElem? (i := 194) (by decide +kernel)) rfl
theorem qw_195 : Cond.fieldLink RX0 18 RX0 (TX0 3).2.1 (TX0 3).2.2.1 ∈ sp_tbl := sp_in (List.mem_of_getElem? (i := 195) (by decide +kernel)) rfl
theorem qw_196 : Cond.fieldLinkNest RX7 221 RX0 (TX0 3).2.1 (TX0 3).2.2.1 RX7 ∈ sp_nest := sp_inN (List.mem_of_getElem? (i := 196) (by decide +kernel)) rfl
theorem qw_218 : Cond.fieldLink RX5 10 RX5 (TX5 0).2.1 (TX5 0).2.2.1 ∈ sp_tbl := sp_in (List.mem_of_getElem? (i := 218) (by decide +kernel)) rfl
theorem qw_219 : Cond.fieldLinkNest RX4 130 RX5 (TX5 0).2.1 (TX5 0).2.2.1 RX7 ∈ sp_nest := sp_inN (List.mem_of_getElem? (i := 219) (by decide +kernel)) rfl
theorem qw_220 : Cond.fieldLink RX5 16 RX5 (TX5 1).2.1 (TX5 1).2.2.1 ∈ sp_tbl := sp_in (List.mem_of_getElem? (i := 220) (by decide +kernel)) rfl
theorem qw_221 : Cond.fieldLinkNest RX4 132 RX5 (TX5 1).2.1 (TX5 1).2.2.1 RX7 ∈ sp_nest := sp_inN (List.mem_of_getElem? (i := 221) (by decide +kernel)) rfl
theorem qw_222 : Cond.fieldLink RX5 19 RX5 (TX5 2).2.1 (TX5 2).2.2.1 ∈ sp_tbl := sp_in (List.mem_of_getElem? (i := 222) (by decide +kernel)) rfl
theorem qw_223 : Cond.fieldLinkNest RX4 134 RX5 (TX5 2).2.1 (TX5 2).2.2.1 RX7 ∈ sp_nest := sp_inN (List.mem_of_getElem? (i := 223) (by decide +kernel)) rfl
theorem qw_231 : Cond.fieldLink RX4 49 RX4 (TX4 0).2.1 (TX4 0).2.2.1 ∈ sp_tbl := sp_in (List.mem_of_getElem? (i := 231) (by decide +kernel)) rfl
theorem qw_232 : Cond.fieldLink RX4 9 RX4 (TX4 1).2.1 (TX4 1).2.2.1 ∈ sp_tbl := sp_in (List.mem_of_getElem? (i := 232) (by decide +kernel)) rfl
theorem qw_233 : Cond.fieldLink RX4 15 RX4 (TX4 2).2.1 (TX4 2).2.2.1 ∈ sp_tbl := sp_in (List.mem_of_getElem? (i := 233) (by decide +kernel)) rfl
theorem qw_234 : Cond.fieldLink RX4 18 RX4 (TX4 3).2.1 (TX4 3).2.2.1 ∈ sp_tbl := sp_in (List.mem_of_getElem? (i := 234) (by decide +kernel)) rfl
theorem qw_235 : Cond.fieldLinkNest RX3 59 RX4 (TX4 3).2.1 (TX4 3).2.2.1 RX7 ∈ sp_nest := sp_inN (List.mem_of_getElem? (i := 235) (by decide +kernel)) rfl
theorem qw_236 : Cond.fieldLink RX4 21 RX4 (TX4 4).2.1 (TX4 4).2.2.1 ∈ sp_tbl := sp_in (List.mem_of_getElem? (i := 236) (by decide +kernel)) rfl
theorem qw_237 : Cond.fieldLink RX4 24 RX4 (TX4 5).2.1 (TX4 5).2.2.1 ∈ sp_tbl := sp_in (List.mem_of_getElem? (i := 237) (by decide +kernel)) rfl
theorem qw_238 : Cond.fieldLink RX4 27 RX4 (TX4 6).2.1 (TX4 6).2.2.1 ∈ sp_tbl := sp_in (List.mem_of_getElem? (i := 238) (by decide +kernel)) rfl
theorem qw_239 : Cond.fieldLink RX4 30 RX4 (TX4 7).2.1 (TX4 7).2.2.1 ∈ sp_tbl := sp_in (List.mem_of_getElem? (i := 239) (by decide +kernel)) rfl
theorem qw_240 : Cond.fieldLink RX4 33 RX4 (TX4 8).2.1 (TX4 8).2.2.1 ∈ sp_tbl := sp_in (List.mem_of_getElem? (i := 240) (by decide +kernel)) rfl
theorem qw_241 : Cond.fieldLink RX4 39 RX4 (TX4 9).2.1 (TX4 9).2.2.1 ∈ sp_tbl := sp_in (List.mem_of_getElem? (i := 241) (by decide +kernel)) rfl
theorem qw_242 : Cond.fieldLink RX4 58 RX4 (TX4 10).2.1 (TX4 10).2.2.1 ∈ sp_tbl := sp_in (List.mem_of_getElem? (i := 242) (by decide +kernel)) rfl
theorem qw_243 : Cond.fieldLinkNest RX3 62 RX4 (TX4 10).2.1 (TX4 10).2.2.1 RX7 ∈ sp_nest := sp_inN (List.mem_of_getElem? (i := 243) (by decide +kernel)) rfl
theorem qw_244 : Cond.fieldLinkNest RX3 26 RX4 (TX4 11).2.1 (TX4 11).2.2.1 RX7 ∈ sp_nest := sp_inN (List.mem_of_getElem? (i := 244) (by decide +kernel)) rfl
theorem qw_245 : Cond.fieldLinkNest RX7 169 RX4 (TX4 11).2.1 (TX4 11).2.2.1 RX7 ∈ sp_nest := sp_inN (List.mem_of_getElem? (i := 245) (by decide +kernel)) rfl
theorem qw_246 : Cond.fieldLink RX4 147 RX4 (TX4 11).2.1 (TX4 11).2.2.1 ∈ sp_tbl := sp_in (List.mem_of_getElem? (i := 246) (by decide +kernel)) rfl
theorem qw_247 : Cond.fieldLinkNest RX7 179 RX4 (TX4 12).2.1 (TX4 12).2.2.1 RX7 ∈ sp_nest := sp_inN (List.mem_of_getElem? (i := 247) (by decide +kernel)) rfl
theorem qw_248 : Cond.fieldLink RX4 150 RX4 (TX4 12).2.1 (TX4 12).2.2.1 ∈ sp_tbl := sp_in (List.mem_of_getElem? (i := 248) (by decide +kernel)) rfl
theorem qw_249 : Cond.fieldLinkNest RX7 182 RX4 (TX4 13).2.1 (TX4 13).2.2.1 RX7 ∈ sp_nest := sp_inN (List.mem_of_getElem? (i := 249) (by decide +kernel)) rfl
theorem qw_250 : Cond.fieldLink RX4 153 RX4 (TX4 13).2.1 (TX4 13).2.2.1 ∈ sp_tbl := sp_in (List.mem_of_getElem? (i := 250) (by decide +kernel)) rfl
theorem qw_251 : Cond.fieldLink RX4 82 RX4 (TX4 14).2.1 (TX4 14).2.2.1 ∈ sp_tbl := sp_in (List.mem_of_getElem? (i := 251) (by decide +kernel)) rfl
theorem qw_252 : Cond.fieldLinkNest RX7 176 RX4 (TX4 14).2.1 (TX4 14).2.2.1 RX7 ∈ sp_nest := sp_inN (List.mem_of_getElem? (i := 252) (by decide +kernel)) rfl
theorem qw_253 : Cond.fieldLink RX4 43 RX4 (TX4 15).2.1 (TX4 15).2.2.1 ∈ sp_tbl := sp_in (List.mem_of_getElem? (i := 253) (by decide +kernel)) rfl
theorem qw_254 : Cond.fieldLinkNest RX7 185 RX4 (TX4 15).2.1 (TX4 15).2.2.1 RX7 ∈ sp_nest := sp_inN (List.mem_of_getElem? (i := 254) (by decide +kernel)) rfl
theorem qw_255 : Cond.fieldLink RX4 46 RX4 (TX4 16).2.1 (TX4 16).2.2.1 ∈ sp_tbl := sp_in (List.mem_of_getElem? (i := 255) (by decide +kernel)) rfl
theorem qw_256 : Cond.fieldLinkNest RX7 186 RX4 (TX4 16).2.1 (TX4 16).2.2.1 RX7 ∈ sp_nest := sp_inN (List.mem_of_getElem? (i := 256) (by decide +kernel)) rfl
theorem qw_298 : Cond.fieldLink RX3 18 RX3 (TX3 0).2.1 (TX3 0).2.2.1 ∈ sp_tbl := sp_in (List.mem_of_getElem? (i := 298) (by decide +kernel)) rfl
theorem qw_299 : Cond.fieldLink RX3 22 RX3 (TX3 1).2.1 (TX3 1).2.2.1 ∈ sp_tbl := sp_in (List.mem_of_getElem? (i := 299) (by decide +kernel)) rfl
theorem qw_300 : Cond.fieldLink RX3 9 RX3 (TX3 2).2.1 (TX3 2).2.2.1 ∈ sp_tbl := sp_in (List.mem_of_getElem? (i := 300) (by decide +kernel)) rfl
theorem qw_301 : Cond.fieldLink RX3 15 RX3 (TX3 3).2.1 (TX3 3).2.2.1 ∈ sp_tbl := sp_in (List.mem_of_getElem? (i := 301) (by decide +kernel)) rfl
theorem qw_302 : Cond.fieldLinkNest RX7 192 RX3 (TX3 3).2.1 (TX3 3).2.2.1 RX7 ∈ sp_nest := sp_inN (List.mem_of_getElem? (i := 302) (by decide +kernel)) rfl
theorem qw_312 : Cond.fieldLink RX7 12 RX7 (TX7 0).2.1 (TX7 0).2.2.1 ∈ sp_tbl := sp_in (List.mem_of_getElem? (i := 312) (by decide +kernel)) rfl
theorem qw_313 : Cond.fieldLink RX7 19 RX7 (TX7 1).2.1 (TX7 1).2.2.1 ∈ sp_tbl := sp_in (List.mem_of_getElem? (i := 313) (by decide +kernel)) rfl
theorem qw_314 : Cond.fieldLink RX7 26 RX7 (TX7 2).2.1 (TX7 2).2.2.1 ∈ sp_tbl := sp_in (List.mem_of_getElem? (i := 314) (by decide +kernel)) rfl
theorem qw_315 : Cond.fieldLink RX7 33 RX7 (TX7 3).2.1 (TX7 3).2.2.1 ∈ sp_tbl := sp_in (List.mem_of_getElem? (i := 315) (by decide +kernel)) rfl
theorem qw_316 : Cond.fieldLink RX7 42 RX7 (TX7 4).2.1 (TX7 4).2.2.1 ∈ sp_tbl := sp_in (List.mem_of_getElem? (i := 316) (by decide +kernel)) rfl
theorem qw_317 : Cond.fieldLink RX7 51 RX7 (TX7 5).2.1 (TX7 5).2.2.1 ∈ sp_tbl := sp_in (List.mem_of_getElem? (i := 317) (by decide +kernel)) rfl
theorem qw_318 : Cond.fieldLink RX7 262 RX7 (TX7 6).2.1 (TX7 6).2.2.1 ∈ sp_tbl := sp_in (List.mem_of_getElem? (i := 318) (by decide +kernel)) rfl
theorem qw_319 : Cond.fieldLink RX7 265 RX7 (TX7 7).2.1 (TX7 7).2.2.1 ∈ sp_tbl := sp_in (List.mem_of_getElem? (i := 319) (by decide +kernel)) rfl
theorem qw_320 : Cond.fieldLink RX7 225 RX7 (TX7 8).2.1 (TX7 8).2.2.1 ∈ sp_tbl := sp_in (List.mem_of_getElem? (i := 320) (by decide +kernel)) rfl
theorem qw_321 : Cond.fieldLink RX7 228 RX7 (TX7 9).2.1 (TX7 9).2.2.1 ∈ sp_tbl := sp_in (List.mem_of_getElem? (i := 321) (by decide +kernel)) rfl
theorem qw_322 : Cond.fieldLink RX7 231 RX7 (TX7 10).2.1 (TX7 10).2.2.1 ∈ sp_tbl := sp_in (List.mem_of_getElem? (i := 322) (by decide +kernel)) rfl
theorem qw_323 : Cond.fieldLink RX7 205 RX7 (TX7 11).2.1 (TX7 11).2.2.1 ∈ sp_tbl := sp_in (List.mem_of_getElem? (i := 323) (by decide +kernel)) rfl
theorem qw_324 : Cond.fieldLink RX7 55 RX7 (TX7 12).2.1 (TX7 12).2.2.1 ∈ sp_tbl := sp_in (List.mem_of_getElem? (i := 324) (by decide +kernel)) rfl
theorem qw_356 : Cond.methodLink RX7 59 yX7_within ∈ sp_tbl := sp_in (List.mem_of_getElem? (i := 356) (by decide +kernel)) rfl
theorem qw_357 : Cond.static yX7_within ∈ sp_tbl := sp_in (List.mem_of_getElem? (i := 357) (by decide +kernel)) rfl
theorem qw_358 : Cond.code yX7_within cX7_within 3 (some .boolean) ∈ sp_tbl := sp_in (List.mem_of_getElem? (i := 358) (by decide +kernel)) rfl
theorem qw_359 : Cond.methodLink RX7 63 yX7_fails ∈ sp_tbl := sp_in (List.mem_of_getElem? (i := 359) (by decide +kernel)) rfl
theorem qw_361 : Cond.instanceMethod yX7_fails ∈ sp_tbl := sp_in (List.mem_of_getElem? (i := 361) (by decide +kernel)) rfl
theorem qw_362 : Cond.code yX7_fails cX7_fails 2 (some .int) ∈ sp_tbl := sp_in (List.mem_of_getElem? (i := 362) (by decide +kernel)) rfl
theorem qw_363 : Cond.methodLink RX7 71 yX6_append ∈ sp_tbl := sp_in (List.mem_of_getElem? (i := 363) (by decide +kernel)) rfl
theorem qw_364 : Cond.instanceMethod yX6_append ∈ sp_tbl := sp_in (List.mem_of_getElem? (i := 364) (by decide +kernel)) rfl
theorem qw_365 : Cond.selects RX6 yX6_append yX6_append ∈ sp_tbl := sp_in (List.mem_of_getElem? (i := 365) (by decide +kernel)) rfl
theorem qw_366 : Cond.code yX6_append cX6_append 2 none ∈ sp_tbl := sp_in (List.mem_of_getElem? (i := 366) (by decide +kernel)) rfl
theorem qw_375 : Cond.methodLink RX7 75 yX6_parse ∈ sp_tbl := sp_in (List.mem_of_getElem? (i := 375) (by decide +kernel)) rfl
theorem qw_376 : Cond.instanceMethod yX6_parse ∈ sp_tbl := sp_in (List.mem_of_getElem? (i := 376) (by decide +kernel)) rfl
theorem qw_377 : Cond.selects RX6 yX6_parse yX6_parse ∈ sp_tbl := sp_in (List.mem_of_getElem? (i := 377) (by decide +kernel)) rfl
theorem qw_378 : Cond.code yX6_parse cX6_parse 3 (some .int) ∈ sp_tbl := sp_in (List.mem_of_getElem? (i := 378) (by decide +kernel)) rfl
theorem qw_379 : Cond.methodLink RX6 26 yX2_restart ∈ sp_tbl := sp_in (List.mem_of_getElem? (i := 379) (by decide +kernel)) rfl
theorem qw_380 : Cond.methodLink RX6 32 yX6_parseHeights ∈ sp_tbl := sp_in (List.mem_of_getElem? (i := 380) (by decide +kernel)) rfl
theorem qw_382 : Cond.instanceMethod yX6_parseHeights ∈ sp_tbl := sp_in (List.mem_of_getElem? (i := 382) (by decide +kernel)) rfl
theorem qw_383 : Cond.code yX6_parseHeights cX6_parseHeights 3 (some .boolean) ∈ sp_tbl := sp_in (List.mem_of_getElem? (i := 383) (by decide +kernel)) rfl
theorem qw_384 : Cond.methodLink RX6 39 yX6_accept ∈ sp_tbl := sp_in (List.mem_of_getElem? (i := 384) (by decide +kernel)) rfl
theorem qw_386 : Cond.instanceMethod yX6_accept ∈ sp_tbl := sp_in (List.mem_of_getElem? (i := 386) (by decide +kernel)) rfl
theorem qw_387 : Cond.code yX6_accept cX6_accept 2 (some .boolean) ∈ sp_tbl := sp_in (List.mem_of_getElem? (i := 387) (by decide +kernel)) rfl
theorem qw_388 : Cond.methodLink RX6 57 yX6_peek ∈ sp_tbl := sp_in (List.mem_of_getElem? (i := 388) (by decide +kernel)) rfl
theorem qw_390 : Cond.instanceMethod yX6_peek ∈ sp_tbl := sp_in (List.mem_of_getElem? (i := 390) (by decide +kernel)) rfl
theorem qw_391 : Cond.code yX6_peek cX6_peek 1 (some .int) ∈ sp_tbl := sp_in (List.mem_of_getElem? (i := 391) (by decide +kernel)) rfl
theorem qw_392 : Cond.methodLinkNest RX6 86 yX7_within RX7 ∈ sp_nest := sp_inN (List.mem_of_getElem? (i := 392) (by decide +kernel)) rfl
theorem qw_393 : Cond.fieldLinkNest RX6 43 "SpanSpotter" (sp_sn 1) "[I" RX7 ∈ sp_nest := sp_inN (List.mem_of_getElem? (i := 393) (by decide +kernel)) rfl
theorem qw_395 : Cond.methodLink RX6 46 yX6_parseNumber ∈ sp_tbl := sp_in (List.mem_of_getElem? (i := 395) (by decide +kernel)) rfl
theorem qw_397 : Cond.instanceMethod yX6_parseNumber ∈ sp_tbl := sp_in (List.mem_of_getElem? (i := 397) (by decide +kernel)) rfl
theorem qw_398 : Cond.code yX6_parseNumber cX6_parseNumber 6 (some .int) ∈ sp_tbl := sp_in (List.mem_of_getElem? (i := 398) (by decide +kernel)) rfl
theorem qw_399 : Cond.methodLink RX6 36 yX6_parseItem ∈ sp_tbl := sp_in (List.mem_of_getElem? (i := 399) (by decide +kernel)) rfl
theorem qw_401 : Cond.instanceMethod yX6_parseItem ∈ sp_tbl := sp_in (List.mem_of_getElem? (i := 401) (by decide +kernel)) rfl
theorem qw_402 : Cond.code yX6_parseItem cX6_parseItem 2 (some .boolean) ∈ sp_tbl := sp_in (List.mem_of_getElem? (i := 402) (by decide +kernel)) rfl
theorem qw_403 : Cond.methodLink RX6 61 yX6_parseClearances ∈ sp_tbl := sp_in (List.mem_of_getElem? (i := 403) (by decide +kernel)) rfl
theorem qw_405 : Cond.instanceMethod yX6_parseClearances ∈ sp_tbl := sp_in (List.mem_of_getElem? (i := 405) (by decide +kernel)) rfl
theorem qw_406 : Cond.code yX6_parseClearances cX6_parseClearances 5 (some .boolean) ∈ sp_tbl := sp_in (List.mem_of_getElem? (i := 406) (by decide +kernel)) rfl
theorem qw_407 : Cond.methodLink RX6 64 yX6_parsePrice ∈ sp_tbl := sp_in (List.mem_of_getElem? (i := 407) (by decide +kernel)) rfl
theorem qw_409 : Cond.instanceMethod yX6_parsePrice ∈ sp_tbl := sp_in (List.mem_of_getElem? (i := 409) (by decide +kernel)) rfl
theorem qw_410 : Cond.code yX6_parsePrice cX6_parsePrice 3 (some .boolean) ∈ sp_tbl := sp_in (List.mem_of_getElem? (i := 410) (by decide +kernel)) rfl
theorem qw_411 : Cond.methodLink RX6 67 yX6_parseBar ∈ sp_tbl := sp_in (List.mem_of_getElem? (i := 411) (by decide +kernel)) rfl
theorem qw_413 : Cond.instanceMethod yX6_parseBar ∈ sp_tbl := sp_in (List.mem_of_getElem? (i := 413) (by decide +kernel)) rfl
theorem qw_414 : Cond.code yX6_parseBar cX6_parseBar 2 (some .boolean) ∈ sp_tbl := sp_in (List.mem_of_getElem? (i := 414) (by decide +kernel)) rfl
theorem qw_415 : Cond.methodLink RX6 70 yX6_parseSetting ∈ sp_tbl := sp_in (List.mem_of_getElem? (i := 415) (by decide +kernel)) rfl
theorem qw_417 : Cond.instanceMethod yX6_parseSetting ∈ sp_tbl := sp_in (List.mem_of_getElem? (i := 417) (by decide +kernel)) rfl
theorem qw_418 : Cond.code yX6_parseSetting cX6_parseSetting 5 (some .boolean) ∈ sp_tbl := sp_in (List.mem_of_getElem? (i := 418) (by decide +kernel)) rfl
theorem qw_419 : Cond.fieldLinkNest RX6 77 "SpanSpotter" (sp_sn 3) "[I" RX7 ∈ sp_nest := sp_inN (List.mem_of_getElem? (i := 419) (by decide +kernel)) rfl
theorem qw_421 : Cond.fieldLinkNest RX6 80 "SpanSpotter" (sp_sn 4) "[I" RX7 ∈ sp_nest := sp_inN (List.mem_of_getElem? (i := 421) (by decide +kernel)) rfl
theorem qw_423 : Cond.methodLink RX7 82 yX7_saveForChange ∈ sp_tbl := sp_in (List.mem_of_getElem? (i := 423) (by decide +kernel)) rfl
theorem qw_425 : Cond.instanceMethod yX7_saveForChange ∈ sp_tbl := sp_in (List.mem_of_getElem? (i := 425) (by decide +kernel)) rfl
theorem qw_426 : Cond.code yX7_saveForChange cX7_saveForChange 1 none ∈ sp_tbl := sp_in (List.mem_of_getElem? (i := 426) (by decide +kernel)) rfl
theorem qw_427 : Cond.methodLink RX7 259 yX1_save ∈ sp_tbl := sp_in (List.mem_of_getElem? (i := 427) (by decide +kernel)) rfl
theorem qw_428 : Cond.instanceMethod yX1_save ∈ sp_tbl := sp_in (List.mem_of_getElem? (i := 428) (by decide +kernel)) rfl
theorem qw_429 : Cond.selects RX1 yX1_save yX1_save ∈ sp_tbl := sp_in (List.mem_of_getElem? (i := 429) (by decide +kernel)) rfl
theorem qw_430 : Cond.code yX1_save cX1_save 2 none ∈ sp_tbl := sp_in (List.mem_of_getElem? (i := 430) (by decide +kernel)) rfl
theorem qw_431 : Cond.methodLink RX1 25 yX2_copyFrom ∈ sp_tbl := sp_in (List.mem_of_getElem? (i := 431) (by decide +kernel)) rfl
theorem qw_432 : Cond.instanceMethod yX2_copyFrom ∈ sp_tbl := sp_in (List.mem_of_getElem? (i := 432) (by decide +kernel)) rfl
theorem qw_433 : Cond.selects RX2 yX2_copyFrom yX2_copyFrom ∈ sp_tbl := sp_in (List.mem_of_getElem? (i := 433) (by decide +kernel)) rfl
theorem qw_434 : Cond.code yX2_copyFrom cX2_copyFrom 3 none ∈ sp_tbl := sp_in (List.mem_of_getElem? (i := 434) (by decide +kernel)) rfl
theorem qw_435 : Cond.methodLink RX2 33 arraycopyName ∈ sp_tbl := sp_in (List.mem_of_getElem? (i := 435) (by decide +kernel)) rfl
theorem qw_436 : Cond.static arraycopyName ∈ sp_tbl := sp_in (List.mem_of_getElem? (i := 436) (by decide +kernel)) rfl
theorem qw_437 : Cond.native arraycopyName ∈ sp_tbl := sp_in (List.mem_of_getElem? (i := 437) (by decide +kernel)) rfl
theorem qw_438 : Cond.methodLink RX7 88 yX2_copyFrom ∈ sp_tbl := sp_in (List.mem_of_getElem? (i := 438) (by decide +kernel)) rfl
theorem qw_439 : Cond.methodLink RX7 91 yX7_forgetSearch ∈ sp_tbl := sp_in (List.mem_of_getElem? (i := 439) (by decide +kernel)) rfl
theorem qw_441 : Cond.instanceMethod yX7_forgetSearch ∈ sp_tbl := sp_in (List.mem_of_getElem? (i := 441) (by decide +kernel)) rfl
theorem qw_442 : Cond.code yX7_forgetSearch cX7_forgetSearch 1 none ∈ sp_tbl := sp_in (List.mem_of_getElem? (i := 442) (by decide +kernel)) rfl
theorem qw_444 : Cond.instanceMethod yX7_place ∈ sp_tbl := sp_in (List.mem_of_getElem? (i := 444) (by decide +kernel)) rfl
theorem qw_445 : Cond.selects RX7 yX7_place yX7_place ∈ sp_tbl := sp_in (List.mem_of_getElem? (i := 445) (by decide +kernel)) rfl
theorem qw_446 : Cond.code yX7_place cX7_place 3 (some .int) ∈ sp_tbl := sp_in (List.mem_of_getElem? (i := 446) (by decide +kernel)) rfl
theorem qw_447 : Cond.methodLink RX7 94 yX2_hasPlace ∈ sp_tbl := sp_in (List.mem_of_getElem? (i := 447) (by decide +kernel)) rfl
theorem qw_448 : Cond.instanceMethod yX2_hasPlace ∈ sp_tbl := sp_in (List.mem_of_getElem? (i := 448) (by decide +kernel)) rfl
theorem qw_449 : Cond.selects RX2 yX2_hasPlace yX2_hasPlace ∈ sp_tbl := sp_in (List.mem_of_getElem? (i := 449) (by decide +kernel)) rfl
theorem qw_450 : Cond.code yX2_hasPlace cX2_hasPlace 2 (some .boolean) ∈ sp_tbl := sp_in (List.mem_of_getElem? (i := 450) (by decide +kernel)) rfl
theorem qw_451 : Cond.methodLinkNest RX2 39 yX7_within RX7 ∈ sp_nest := sp_inN (List.mem_of_getElem? (i := 451) (by decide +kernel)) rfl
theorem qw_456 : Cond.methodLink RX7 102 yX2_mostOf ∈ sp_tbl := sp_in (List.mem_of_getElem? (i := 456) (by decide +kernel)) rfl
theorem qw_457 : Cond.instanceMethod yX2_mostOf ∈ sp_tbl := sp_in (List.mem_of_getElem? (i := 457) (by decide +kernel)) rfl
theorem qw_458 : Cond.selects RX2 yX2_mostOf yX2_mostOf ∈ sp_tbl := sp_in (List.mem_of_getElem? (i := 458) (by decide +kernel)) rfl
theorem qw_459 : Cond.code yX2_mostOf cX2_mostOf 3 (some .int) ∈ sp_tbl := sp_in (List.mem_of_getElem? (i := 459) (by decide +kernel)) rfl
theorem qw_460 : Cond.methodLink RX2 43 yX2_isEnd ∈ sp_tbl := sp_in (List.mem_of_getElem? (i := 460) (by decide +kernel)) rfl
theorem qw_461 : Cond.instanceMethod yX2_isEnd ∈ sp_tbl := sp_in (List.mem_of_getElem? (i := 461) (by decide +kernel)) rfl
theorem qw_462 : Cond.selects RX2 yX2_isEnd yX2_isEnd ∈ sp_tbl := sp_in (List.mem_of_getElem? (i := 462) (by decide +kernel)) rfl
theorem qw_463 : Cond.code yX2_isEnd cX2_isEnd 2 (some .boolean) ∈ sp_tbl := sp_in (List.mem_of_getElem? (i := 463) (by decide +kernel)) rfl
theorem qw_464 : Cond.fieldLinkNest RX2 47 "SpanSpotter" (sp_sn 1) "[I" RX7 ∈ sp_nest := sp_inN (List.mem_of_getElem? (i := 464) (by decide +kernel)) rfl
theorem qw_469 : Cond.methodLink RX7 106 yX7_isSetting ∈ sp_tbl := sp_in (List.mem_of_getElem? (i := 469) (by decide +kernel)) rfl
theorem qw_470 : Cond.static yX7_isSetting ∈ sp_tbl := sp_in (List.mem_of_getElem? (i := 470) (by decide +kernel)) rfl
theorem qw_471 : Cond.code yX7_isSetting cX7_isSetting 2 (some .boolean) ∈ sp_tbl := sp_in (List.mem_of_getElem? (i := 471) (by decide +kernel)) rfl
theorem qw_472 : Cond.fieldLink RX7 284 "SpanSpotter" (sp_sn 3) "[I" ∈ sp_tbl := sp_in (List.mem_of_getElem? (i := 472) (by decide +kernel)) rfl
theorem qw_473 : Cond.fieldLink RX7 287 "SpanSpotter" (sp_sn 4) "[I" ∈ sp_tbl := sp_in (List.mem_of_getElem? (i := 473) (by decide +kernel)) rfl
theorem qw_478 : Cond.methodLink RX7 114 yX2_countKinds ∈ sp_tbl := sp_in (List.mem_of_getElem? (i := 478) (by decide +kernel)) rfl
theorem qw_479 : Cond.instanceMethod yX2_countKinds ∈ sp_tbl := sp_in (List.mem_of_getElem? (i := 479) (by decide +kernel)) rfl
theorem qw_480 : Cond.selects RX2 yX2_countKinds yX2_countKinds ∈ sp_tbl := sp_in (List.mem_of_getElem? (i := 480) (by decide +kernel)) rfl
theorem qw_481 : Cond.code yX2_countKinds cX2_countKinds 4 (some .int) ∈ sp_tbl := sp_in (List.mem_of_getElem? (i := 481) (by decide +kernel)) rfl
theorem qw_482 : Cond.methodLink RX2 59 yX2_hasTower ∈ sp_tbl := sp_in (List.mem_of_getElem? (i := 482) (by decide +kernel)) rfl
theorem qw_483 : Cond.instanceMethod yX2_hasTower ∈ sp_tbl := sp_in (List.mem_of_getElem? (i := 483) (by decide +kernel)) rfl
theorem qw_484 : Cond.selects RX2 yX2_hasTower yX2_hasTower ∈ sp_tbl := sp_in (List.mem_of_getElem? (i := 484) (by decide +kernel)) rfl
theorem qw_485 : Cond.code yX2_hasTower cX2_hasTower 2 (some .boolean) ∈ sp_tbl := sp_in (List.mem_of_getElem? (i := 485) (by decide +kernel)) rfl
theorem qw_490 : Cond.methodLink RX7 117 yX2_hasTower ∈ sp_tbl := sp_in (List.mem_of_getElem? (i := 490) (by decide +kernel)) rfl
theorem qw_495 : Cond.methodLink RX7 120 yX2_hasTowerBetween ∈ sp_tbl := sp_in (List.mem_of_getElem? (i := 495) (by decide +kernel)) rfl
theorem qw_496 : Cond.instanceMethod yX2_hasTowerBetween ∈ sp_tbl := sp_in (List.mem_of_getElem? (i := 496) (by decide +kernel)) rfl
theorem qw_497 : Cond.selects RX2 yX2_hasTowerBetween yX2_hasTowerBetween ∈ sp_tbl := sp_in (List.mem_of_getElem? (i := 497) (by decide +kernel)) rfl
theorem qw_498 : Cond.code yX2_hasTowerBetween cX2_hasTowerBetween 5 (some .boolean) ∈ sp_tbl := sp_in (List.mem_of_getElem? (i := 498) (by decide +kernel)) rfl
theorem qw_499 : Cond.methodLink RX2 50 Lib.Math.max.name ∈ sp_tbl := sp_in (List.mem_of_getElem? (i := 499) (by decide +kernel)) rfl
theorem qw_500 : Cond.static Lib.Math.max.name ∈ sp_tbl := sp_in (List.mem_of_getElem? (i := 500) (by decide +kernel)) rfl
theorem qw_501 : Cond.code Lib.Math.max.name Lib.Math.max.code 2 (some .int) ∈ sp_tbl := sp_in (List.mem_of_getElem? (i := 501) (by decide +kernel)) rfl
theorem qw_502 : Cond.methodLink RX2 56 Lib.Math.min.name ∈ sp_tbl := sp_in (List.mem_of_getElem? (i := 502) (by decide +kernel)) rfl
theorem qw_503 : Cond.static Lib.Math.min.name ∈ sp_tbl := sp_in (List.mem_of_getElem? (i := 503) (by decide +kernel)) rfl
theorem qw_504 : Cond.code Lib.Math.min.name Lib.Math.min.code 2 (some .int) ∈ sp_tbl := sp_in (List.mem_of_getElem? (i := 504) (by decide +kernel)) rfl
theorem qw_505 : Cond.methodLink RX7 123 yX0_list ∈ sp_tbl := sp_in (List.mem_of_getElem? (i := 505) (by decide +kernel)) rfl
theorem qw_506 : Cond.instanceMethod yX0_list ∈ sp_tbl := sp_in (List.mem_of_getElem? (i := 506) (by decide +kernel)) rfl
theorem qw_507 : Cond.selects RX0 yX0_list yX0_list ∈ sp_tbl := sp_in (List.mem_of_getElem? (i := 507) (by decide +kernel)) rfl
theorem qw_508 : Cond.code yX0_list cX0_list 3 none ∈ sp_tbl := sp_in (List.mem_of_getElem? (i := 508) (by decide +kernel)) rfl
theorem qw_509 : Cond.methodLink RX0 31 yX0_inspect ∈ sp_tbl := sp_in (List.mem_of_getElem? (i := 509) (by decide +kernel)) rfl
theorem qw_511 : Cond.instanceMethod yX0_inspect ∈ sp_tbl := sp_in (List.mem_of_getElem? (i := 511) (by decide +kernel)) rfl
theorem qw_512 : Cond.code yX0_inspect cX0_inspect 6 none ∈ sp_tbl := sp_in (List.mem_of_getElem? (i := 512) (by decide +kernel)) rfl
theorem qw_513 : Cond.methodLink RX0 39 yX2_isEnd ∈ sp_tbl := sp_in (List.mem_of_getElem? (i := 513) (by decide +kernel)) rfl
theorem qw_514 : Cond.methodLink RX0 43 yX0_add ∈ sp_tbl := sp_in (List.mem_of_getElem? (i := 514) (by decide +kernel)) rfl
theorem qw_516 : Cond.instanceMethod yX0_add ∈ sp_tbl := sp_in (List.mem_of_getElem? (i := 516) (by decide +kernel)) rfl
theorem qw_517 : Cond.code yX0_add cX0_add 3 none ∈ sp_tbl := sp_in (List.mem_of_getElem? (i := 517) (by decide +kernel)) rfl
theorem qw_518 : Cond.methodLink RX0 47 yX2_towerAfter ∈ sp_tbl := sp_in (List.mem_of_getElem? (i := 518) (by decide +kernel)) rfl
theorem qw_519 : Cond.instanceMethod yX2_towerAfter ∈ sp_tbl := sp_in (List.mem_of_getElem? (i := 519) (by decide +kernel)) rfl
theorem qw_520 : Cond.selects RX2 yX2_towerAfter yX2_towerAfter ∈ sp_tbl := sp_in (List.mem_of_getElem? (i := 520) (by decide +kernel)) rfl
theorem qw_521 : Cond.code yX2_towerAfter cX2_towerAfter 3 (some .int) ∈ sp_tbl := sp_in (List.mem_of_getElem? (i := 521) (by decide +kernel)) rfl
theorem qw_522 : Cond.methodLink RX0 51 yX2_towerBefore ∈ sp_tbl := sp_in (List.mem_of_getElem? (i := 522) (by decide +kernel)) rfl
theorem qw_523 : Cond.instanceMethod yX2_towerBefore ∈ sp_tbl := sp_in (List.mem_of_getElem? (i := 523) (by decide +kernel)) rfl
theorem qw_524 : Cond.selects RX2 yX2_towerBefore yX2_towerBefore ∈ sp_tbl := sp_in (List.mem_of_getElem? (i := 524) (by decide +kernel)) rfl
theorem qw_525 : Cond.code yX2_towerBefore cX2_towerBefore 3 (some .int) ∈ sp_tbl := sp_in (List.mem_of_getElem? (i := 525) (by decide +kernel)) rfl
theorem qw_526 : Cond.methodLink RX0 54 yX2_pullUpper ∈ sp_tbl := sp_in (List.mem_of_getElem? (i := 526) (by decide +kernel)) rfl
theorem qw_527 : Cond.instanceMethod yX2_pullUpper ∈ sp_tbl := sp_in (List.mem_of_getElem? (i := 527) (by decide +kernel)) rfl
theorem qw_528 : Cond.selects RX2 yX2_pullUpper yX2_pullUpper ∈ sp_tbl := sp_in (List.mem_of_getElem? (i := 528) (by decide +kernel)) rfl
theorem qw_529 : Cond.code yX2_pullUpper cX2_pullUpper 7 (some .int) ∈ sp_tbl := sp_in (List.mem_of_getElem? (i := 529) (by decide +kernel)) rfl
theorem qw_530 : Cond.methodLink RX2 73 yX2_topOf ∈ sp_tbl := sp_in (List.mem_of_getElem? (i := 530) (by decide +kernel)) rfl
theorem qw_531 : Cond.instanceMethod yX2_topOf ∈ sp_tbl := sp_in (List.mem_of_getElem? (i := 531) (by decide +kernel)) rfl
theorem qw_532 : Cond.selects RX2 yX2_topOf yX2_topOf ∈ sp_tbl := sp_in (List.mem_of_getElem? (i := 532) (by decide +kernel)) rfl
theorem qw_533 : Cond.code yX2_topOf cX2_topOf 2 (some .int) ∈ sp_tbl := sp_in (List.mem_of_getElem? (i := 533) (by decide +kernel)) rfl
theorem qw_534 : Cond.methodLink RX2 65 yX2_height ∈ sp_tbl := sp_in (List.mem_of_getElem? (i := 534) (by decide +kernel)) rfl
theorem qw_535 : Cond.instanceMethod yX2_height ∈ sp_tbl := sp_in (List.mem_of_getElem? (i := 535) (by decide +kernel)) rfl
theorem qw_536 : Cond.selects RX2 yX2_height yX2_height ∈ sp_tbl := sp_in (List.mem_of_getElem? (i := 536) (by decide +kernel)) rfl
theorem qw_537 : Cond.code yX2_height cX2_height 2 (some .int) ∈ sp_tbl := sp_in (List.mem_of_getElem? (i := 537) (by decide +kernel)) rfl
theorem qw_538 : Cond.methodLink RX0 61 yX2_pullLower ∈ sp_tbl := sp_in (List.mem_of_getElem? (i := 538) (by decide +kernel)) rfl
theorem qw_539 : Cond.instanceMethod yX2_pullLower ∈ sp_tbl := sp_in (List.mem_of_getElem? (i := 539) (by decide +kernel)) rfl
theorem qw_540 : Cond.selects RX2 yX2_pullLower yX2_pullLower ∈ sp_tbl := sp_in (List.mem_of_getElem? (i := 540) (by decide +kernel)) rfl
theorem qw_541 : Cond.code yX2_pullLower cX2_pullLower 4 (some .int) ∈ sp_tbl := sp_in (List.mem_of_getElem? (i := 541) (by decide +kernel)) rfl
theorem qw_542 : Cond.methodLink RX0 64 yX2_topOf ∈ sp_tbl := sp_in (List.mem_of_getElem? (i := 542) (by decide +kernel)) rfl
theorem qw_543 : Cond.methodLink RX0 67 yX2_clears ∈ sp_tbl := sp_in (List.mem_of_getElem? (i := 543) (by decide +kernel)) rfl
theorem qw_544 : Cond.instanceMethod yX2_clears ∈ sp_tbl := sp_in (List.mem_of_getElem? (i := 544) (by decide +kernel)) rfl
theorem qw_545 : Cond.selects RX2 yX2_clears yX2_clears ∈ sp_tbl := sp_in (List.mem_of_getElem? (i := 545) (by decide +kernel)) rfl
theorem qw_546 : Cond.code yX2_clears cX2_clears 6 (some .boolean) ∈ sp_tbl := sp_in (List.mem_of_getElem? (i := 546) (by decide +kernel)) rfl
theorem qw_547 : Cond.methodLink RX2 69 yX2_roomUpper ∈ sp_tbl := sp_in (List.mem_of_getElem? (i := 547) (by decide +kernel)) rfl
theorem qw_548 : Cond.instanceMethod yX2_roomUpper ∈ sp_tbl := sp_in (List.mem_of_getElem? (i := 548) (by decide +kernel)) rfl
theorem qw_549 : Cond.selects RX2 yX2_roomUpper yX2_roomUpper ∈ sp_tbl := sp_in (List.mem_of_getElem? (i := 549) (by decide +kernel)) rfl
theorem qw_550 : Cond.code yX2_roomUpper cX2_roomUpper 8 (some .int) ∈ sp_tbl := sp_in (List.mem_of_getElem? (i := 550) (by decide +kernel)) rfl
theorem qw_552 : Cond.instanceMethod yX7_flaw ∈ sp_tbl := sp_in (List.mem_of_getElem? (i := 552) (by decide +kernel)) rfl
theorem qw_553 : Cond.selects RX7 yX7_flaw yX7_flaw ∈ sp_tbl := sp_in (List.mem_of_getElem? (i := 553) (by decide +kernel)) rfl
theorem qw_554 : Cond.code yX7_flaw cX7_flaw 3 (some .int) ∈ sp_tbl := sp_in (List.mem_of_getElem? (i := 554) (by decide +kernel)) rfl
theorem qw_559 : Cond.methodLink RX7 135 yX2_towerBefore ∈ sp_tbl := sp_in (List.mem_of_getElem? (i := 559) (by decide +kernel)) rfl
theorem qw_560 : Cond.methodLink RX7 138 yX2_towerAfter ∈ sp_tbl := sp_in (List.mem_of_getElem? (i := 560) (by decide +kernel)) rfl
theorem qw_561 : Cond.methodLink RX7 141 yX2_topOf ∈ sp_tbl := sp_in (List.mem_of_getElem? (i := 561) (by decide +kernel)) rfl
theorem qw_562 : Cond.methodLink RX7 144 yX2_roomUpper ∈ sp_tbl := sp_in (List.mem_of_getElem? (i := 562) (by decide +kernel)) rfl
theorem qw_563 : Cond.methodLink RX7 148 yX2_roomLower ∈ sp_tbl := sp_in (List.mem_of_getElem? (i := 563) (by decide +kernel)) rfl
theorem qw_564 : Cond.instanceMethod yX2_roomLower ∈ sp_tbl := sp_in (List.mem_of_getElem? (i := 564) (by decide +kernel)) rfl
theorem qw_565 : Cond.selects RX2 yX2_roomLower yX2_roomLower ∈ sp_tbl := sp_in (List.mem_of_getElem? (i := 565) (by decide +kernel)) rfl
theorem qw_566 : Cond.code yX2_roomLower cX2_roomLower 3 (some .int) ∈ sp_tbl := sp_in (List.mem_of_getElem? (i := 566) (by decide +kernel)) rfl
theorem qw_567 : Cond.methodLink RX7 151 yX7_keepFraction ∈ sp_tbl := sp_in (List.mem_of_getElem? (i := 567) (by decide +kernel)) rfl
theorem qw_569 : Cond.instanceMethod yX7_keepFraction ∈ sp_tbl := sp_in (List.mem_of_getElem? (i := 569) (by decide +kernel)) rfl
theorem qw_570 : Cond.code yX7_keepFraction cX7_keepFraction 7 none ∈ sp_tbl := sp_in (List.mem_of_getElem? (i := 570) (by decide +kernel)) rfl
theorem qw_571 : Cond.methodLink RX7 274 yX7_commonDivisor ∈ sp_tbl := sp_in (List.mem_of_getElem? (i := 571) (by decide +kernel)) rfl
theorem qw_572 : Cond.static yX7_commonDivisor ∈ sp_tbl := sp_in (List.mem_of_getElem? (i := 572) (by decide +kernel)) rfl
theorem qw_573 : Cond.code yX7_commonDivisor cX7_commonDivisor 11 (some .long) ∈ sp_tbl := sp_in (List.mem_of_getElem? (i := 573) (by decide +kernel)) rfl
theorem qw_574 : Cond.methodLink RX7 278 Lib.MathLoose.abs_long.x ∈ sp_tbl := sp_in (List.mem_of_getElem? (i := 574) (by decide +kernel)) rfl
theorem qw_575 : Cond.static Lib.MathLoose.abs_long.x ∈ sp_tbl := sp_in (List.mem_of_getElem? (i := 575) (by decide +kernel)) rfl
theorem qw_576 : Cond.code Lib.MathLoose.abs_long.x Lib.MathLoose.abs_long.code 2 (some .long) ∈ sp_tbl := sp_in (List.mem_of_getElem? (i := 576) (by decide +kernel)) rfl
theorem qw_581 : Cond.methodLink RX7 155 yX2_lowestRoom ∈ sp_tbl := sp_in (List.mem_of_getElem? (i := 581) (by decide +kernel)) rfl
theorem qw_582 : Cond.instanceMethod yX2_lowestRoom ∈ sp_tbl := sp_in (List.mem_of_getElem? (i := 582) (by decide +kernel)) rfl
theorem qw_583 : Cond.selects RX2 yX2_lowestRoom yX2_lowestRoom ∈ sp_tbl := sp_in (List.mem_of_getElem? (i := 583) (by decide +kernel)) rfl
theorem qw_584 : Cond.code yX2_lowestRoom cX2_lowestRoom 9 (some .int) ∈ sp_tbl := sp_in (List.mem_of_getElem? (i := 584) (by decide +kernel)) rfl
theorem qw_589 : Cond.methodLink RX7 159 yX2_pullUpper ∈ sp_tbl := sp_in (List.mem_of_getElem? (i := 589) (by decide +kernel)) rfl
theorem qw_590 : Cond.methodLink RX7 163 yX2_pullLower ∈ sp_tbl := sp_in (List.mem_of_getElem? (i := 590) (by decide +kernel)) rfl
theorem qw_592 : Cond.instanceMethod yX7_cheapest ∈ sp_tbl := sp_in (List.mem_of_getElem? (i := 592) (by decide +kernel)) rfl
theorem qw_593 : Cond.selects RX7 yX7_cheapest yX7_cheapest ∈ sp_tbl := sp_in (List.mem_of_getElem? (i := 593) (by decide +kernel)) rfl
theorem qw_594 : Cond.code yX7_cheapest cX7_cheapest 2 (some .int) ∈ sp_tbl := sp_in (List.mem_of_getElem? (i := 594) (by decide +kernel)) rfl
theorem qw_595 : Cond.methodLink RX7 166 yX7_findCheapest ∈ sp_tbl := sp_in (List.mem_of_getElem? (i := 595) (by decide +kernel)) rfl
theorem qw_597 : Cond.instanceMethod yX7_findCheapest ∈ sp_tbl := sp_in (List.mem_of_getElem? (i := 597) (by decide +kernel)) rfl
theorem qw_598 : Cond.code yX7_findCheapest cX7_findCheapest 1 none ∈ sp_tbl := sp_in (List.mem_of_getElem? (i := 598) (by decide +kernel)) rfl
theorem qw_599 : Cond.methodLink RX7 202 yX4_solve ∈ sp_tbl := sp_in (List.mem_of_getElem? (i := 599) (by decide +kernel)) rfl
theorem qw_600 : Cond.instanceMethod yX4_solve ∈ sp_tbl := sp_in (List.mem_of_getElem? (i := 600) (by decide +kernel)) rfl
theorem qw_601 : Cond.selects RX4 yX4_solve yX4_solve ∈ sp_tbl := sp_in (List.mem_of_getElem? (i := 601) (by decide +kernel)) rfl
theorem qw_602 : Cond.code yX4_solve cX4_solve 3 none ∈ sp_tbl := sp_in (List.mem_of_getElem? (i := 602) (by decide +kernel)) rfl
theorem qw_603 : Cond.methodLink RX4 62 yX4_weighTowers ∈ sp_tbl := sp_in (List.mem_of_getElem? (i := 603) (by decide +kernel)) rfl
theorem qw_605 : Cond.instanceMethod yX4_weighTowers ∈ sp_tbl := sp_in (List.mem_of_getElem? (i := 605) (by decide +kernel)) rfl
theorem qw_606 : Cond.code yX4_weighTowers cX4_weighTowers 3 none ∈ sp_tbl := sp_in (List.mem_of_getElem? (i := 606) (by decide +kernel)) rfl
theorem qw_607 : Cond.methodLink RX4 89 yX2_towerCost ∈ sp_tbl := sp_in (List.mem_of_getElem? (i := 607) (by decide +kernel)) rfl
theorem qw_608 : Cond.instanceMethod yX2_towerCost ∈ sp_tbl := sp_in (List.mem_of_getElem? (i := 608) (by decide +kernel)) rfl
theorem qw_609 : Cond.selects RX2 yX2_towerCost yX2_towerCost ∈ sp_tbl := sp_in (List.mem_of_getElem? (i := 609) (by decide +kernel)) rfl
theorem qw_610 : Cond.code yX2_towerCost cX2_towerCost 4 (some .int) ∈ sp_tbl := sp_in (List.mem_of_getElem? (i := 610) (by decide +kernel)) rfl
theorem qw_611 : Cond.methodLink RX4 68 yX4_tallySpansFrom ∈ sp_tbl := sp_in (List.mem_of_getElem? (i := 611) (by decide +kernel)) rfl
theorem qw_613 : Cond.instanceMethod yX4_tallySpansFrom ∈ sp_tbl := sp_in (List.mem_of_getElem? (i := 613) (by decide +kernel)) rfl
theorem qw_614 : Cond.code yX4_tallySpansFrom cX4_tallySpansFrom 6 none ∈ sp_tbl := sp_in (List.mem_of_getElem? (i := 614) (by decide +kernel)) rfl
theorem qw_615 : Cond.methodLink RX4 93 yX4_longestFrom ∈ sp_tbl := sp_in (List.mem_of_getElem? (i := 615) (by decide +kernel)) rfl
theorem qw_616 : Cond.instanceMethod yX4_longestFrom ∈ sp_tbl := sp_in (List.mem_of_getElem? (i := 616) (by decide +kernel)) rfl
theorem qw_617 : Cond.selects RX4 yX4_longestFrom yX4_longestFrom ∈ sp_tbl := sp_in (List.mem_of_getElem? (i := 617) (by decide +kernel)) rfl
theorem qw_618 : Cond.code yX4_longestFrom cX4_longestFrom 3 (some .int) ∈ sp_tbl := sp_in (List.mem_of_getElem? (i := 618) (by decide +kernel)) rfl
theorem qw_619 : Cond.methodLink RX4 96 yX4_tallySpan ∈ sp_tbl := sp_in (List.mem_of_getElem? (i := 619) (by decide +kernel)) rfl
theorem qw_621 : Cond.instanceMethod yX4_tallySpan ∈ sp_tbl := sp_in (List.mem_of_getElem? (i := 621) (by decide +kernel)) rfl
theorem qw_622 : Cond.code yX4_tallySpan cX4_tallySpan 9 none ∈ sp_tbl := sp_in (List.mem_of_getElem? (i := 622) (by decide +kernel)) rfl
theorem qw_623 : Cond.methodLink RX4 100 yX4_spanOf ∈ sp_tbl := sp_in (List.mem_of_getElem? (i := 623) (by decide +kernel)) rfl
theorem qw_624 : Cond.instanceMethod yX4_spanOf ∈ sp_tbl := sp_in (List.mem_of_getElem? (i := 624) (by decide +kernel)) rfl
theorem qw_625 : Cond.selects RX4 yX4_spanOf yX4_spanOf ∈ sp_tbl := sp_in (List.mem_of_getElem? (i := 625) (by decide +kernel)) rfl
theorem qw_626 : Cond.code yX4_spanOf cX4_spanOf 5 (some .int) ∈ sp_tbl := sp_in (List.mem_of_getElem? (i := 626) (by decide +kernel)) rfl
theorem qw_627 : Cond.methodLink RX4 104 yX2_topWith ∈ sp_tbl := sp_in (List.mem_of_getElem? (i := 627) (by decide +kernel)) rfl
theorem qw_628 : Cond.instanceMethod yX2_topWith ∈ sp_tbl := sp_in (List.mem_of_getElem? (i := 628) (by decide +kernel)) rfl
theorem qw_629 : Cond.selects RX2 yX2_topWith yX2_topWith ∈ sp_tbl := sp_in (List.mem_of_getElem? (i := 629) (by decide +kernel)) rfl
theorem qw_630 : Cond.code yX2_topWith cX2_topWith 3 (some .int) ∈ sp_tbl := sp_in (List.mem_of_getElem? (i := 630) (by decide +kernel)) rfl
theorem qw_631 : Cond.methodLink RX4 107 yX5_restart ∈ sp_tbl := sp_in (List.mem_of_getElem? (i := 631) (by decide +kernel)) rfl
theorem qw_632 : Cond.instanceMethod yX5_restart ∈ sp_tbl := sp_in (List.mem_of_getElem? (i := 632) (by decide +kernel)) rfl
theorem qw_633 : Cond.selects RX5 yX5_restart yX5_restart ∈ sp_tbl := sp_in (List.mem_of_getElem? (i := 633) (by decide +kernel)) rfl
theorem qw_634 : Cond.code yX5_restart cX5_restart 1 none ∈ sp_tbl := sp_in (List.mem_of_getElem? (i := 634) (by decide +kernel)) rfl
theorem qw_635 : Cond.constant RX5 9 (100000000) ∈ sp_tbl := sp_in (List.mem_of_getElem? (i := 635) (by decide +kernel)) rfl
theorem qw_636 : Cond.methodLink RX4 110 yX4_mayStand ∈ sp_tbl := sp_in (List.mem_of_getElem? (i := 636) (by decide +kernel)) rfl
theorem qw_638 : Cond.instanceMethod yX4_mayStand ∈ sp_tbl := sp_in (List.mem_of_getElem? (i := 638) (by decide +kernel)) rfl
theorem qw_639 : Cond.code yX4_mayStand cX4_mayStand 2 (some .boolean) ∈ sp_tbl := sp_in (List.mem_of_getElem? (i := 639) (by decide +kernel)) rfl
theorem qw_640 : Cond.methodLink RX4 114 yX2_clears ∈ sp_tbl := sp_in (List.mem_of_getElem? (i := 640) (by decide +kernel)) rfl
theorem qw_641 : Cond.methodLink RX4 118 yX4_addAnchor ∈ sp_tbl := sp_in (List.mem_of_getElem? (i := 641) (by decide +kernel)) rfl
theorem qw_643 : Cond.instanceMethod yX4_addAnchor ∈ sp_tbl := sp_in (List.mem_of_getElem? (i := 643) (by decide +kernel)) rfl
theorem qw_644 : Cond.code yX4_addAnchor cX4_addAnchor 5 none ∈ sp_tbl := sp_in (List.mem_of_getElem? (i := 644) (by decide +kernel)) rfl
theorem qw_645 : Cond.methodLink RX4 124 yX4_towerWeight ∈ sp_tbl := sp_in (List.mem_of_getElem? (i := 645) (by decide +kernel)) rfl
theorem qw_646 : Cond.instanceMethod yX4_towerWeight ∈ sp_tbl := sp_in (List.mem_of_getElem? (i := 646) (by decide +kernel)) rfl
theorem qw_647 : Cond.selects RX4 yX4_towerWeight yX4_towerWeight ∈ sp_tbl := sp_in (List.mem_of_getElem? (i := 647) (by decide +kernel)) rfl
theorem qw_648 : Cond.code yX4_towerWeight cX4_towerWeight 3 (some .int) ∈ sp_tbl := sp_in (List.mem_of_getElem? (i := 648) (by decide +kernel)) rfl
theorem qw_649 : Cond.methodLink RX4 136 yX5_add ∈ sp_tbl := sp_in (List.mem_of_getElem? (i := 649) (by decide +kernel)) rfl
theorem qw_650 : Cond.instanceMethod yX5_add ∈ sp_tbl := sp_in (List.mem_of_getElem? (i := 650) (by decide +kernel)) rfl
theorem qw_651 : Cond.selects RX5 yX5_add yX5_add ∈ sp_tbl := sp_in (List.mem_of_getElem? (i := 651) (by decide +kernel)) rfl
theorem qw_652 : Cond.code yX5_add cX5_add 6 none ∈ sp_tbl := sp_in (List.mem_of_getElem? (i := 652) (by decide +kernel)) rfl
theorem qw_653 : Cond.constant RX5 22 (1000000) ∈ sp_tbl := sp_in (List.mem_of_getElem? (i := 653) (by decide +kernel)) rfl
theorem qw_654 : Cond.methodLink RX4 140 yX4_stand ∈ sp_tbl := sp_in (List.mem_of_getElem? (i := 654) (by decide +kernel)) rfl
theorem qw_655 : Cond.instanceMethod yX4_stand ∈ sp_tbl := sp_in (List.mem_of_getElem? (i := 655) (by decide +kernel)) rfl
theorem qw_656 : Cond.selects RX4 yX4_stand yX4_stand ∈ sp_tbl := sp_in (List.mem_of_getElem? (i := 656) (by decide +kernel)) rfl
theorem qw_657 : Cond.code yX4_stand cX4_stand 3 (some .int) ∈ sp_tbl := sp_in (List.mem_of_getElem? (i := 657) (by decide +kernel)) rfl
theorem qw_658 : Cond.methodLink RX4 121 yX4_pullBefore ∈ sp_tbl := sp_in (List.mem_of_getElem? (i := 658) (by decide +kernel)) rfl
theorem qw_659 : Cond.instanceMethod yX4_pullBefore ∈ sp_tbl := sp_in (List.mem_of_getElem? (i := 659) (by decide +kernel)) rfl
theorem qw_660 : Cond.selects RX4 yX4_pullBefore yX4_pullBefore ∈ sp_tbl := sp_in (List.mem_of_getElem? (i := 660) (by decide +kernel)) rfl
theorem qw_661 : Cond.code yX4_pullBefore cX4_pullBefore 3 (some .int) ∈ sp_tbl := sp_in (List.mem_of_getElem? (i := 661) (by decide +kernel)) rfl
theorem qw_662 : Cond.methodLink RX4 127 yX4_addFollowing ∈ sp_tbl := sp_in (List.mem_of_getElem? (i := 662) (by decide +kernel)) rfl
theorem qw_664 : Cond.instanceMethod yX4_addFollowing ∈ sp_tbl := sp_in (List.mem_of_getElem? (i := 664) (by decide +kernel)) rfl
theorem qw_665 : Cond.code yX4_addFollowing cX4_addFollowing 9 none ∈ sp_tbl := sp_in (List.mem_of_getElem? (i := 665) (by decide +kernel)) rfl
theorem qw_666 : Cond.methodLink RX4 143 yX4_pullAfter ∈ sp_tbl := sp_in (List.mem_of_getElem? (i := 666) (by decide +kernel)) rfl
theorem qw_667 : Cond.instanceMethod yX4_pullAfter ∈ sp_tbl := sp_in (List.mem_of_getElem? (i := 667) (by decide +kernel)) rfl
theorem qw_668 : Cond.selects RX4 yX4_pullAfter yX4_pullAfter ∈ sp_tbl := sp_in (List.mem_of_getElem? (i := 668) (by decide +kernel)) rfl
theorem qw_669 : Cond.code yX4_pullAfter cX4_pullAfter 3 (some .int) ∈ sp_tbl := sp_in (List.mem_of_getElem? (i := 669) (by decide +kernel)) rfl
theorem qw_670 : Cond.methodLink RX4 72 yX4_tallyOpen ∈ sp_tbl := sp_in (List.mem_of_getElem? (i := 670) (by decide +kernel)) rfl
theorem qw_672 : Cond.instanceMethod yX4_tallyOpen ∈ sp_tbl := sp_in (List.mem_of_getElem? (i := 672) (by decide +kernel)) rfl
theorem qw_673 : Cond.code yX4_tallyOpen cX4_tallyOpen 4 none ∈ sp_tbl := sp_in (List.mem_of_getElem? (i := 673) (by decide +kernel)) rfl
theorem qw_674 : Cond.constant RX4 146 (-1000000000) ∈ sp_tbl := sp_in (List.mem_of_getElem? (i := 674) (by decide +kernel)) rfl
theorem qw_675 : Cond.methodLink RX4 75 yX4_tallyPlans ∈ sp_tbl := sp_in (List.mem_of_getElem? (i := 675) (by decide +kernel)) rfl
theorem qw_677 : Cond.instanceMethod yX4_tallyPlans ∈ sp_tbl := sp_in (List.mem_of_getElem? (i := 677) (by decide +kernel)) rfl
theorem qw_678 : Cond.code yX4_tallyPlans cX4_tallyPlans 2 none ∈ sp_tbl := sp_in (List.mem_of_getElem? (i := 678) (by decide +kernel)) rfl
theorem qw_679 : Cond.methodLink RX7 268 yX4_pickPlan ∈ sp_tbl := sp_in (List.mem_of_getElem? (i := 679) (by decide +kernel)) rfl
theorem qw_680 : Cond.instanceMethod yX4_pickPlan ∈ sp_tbl := sp_in (List.mem_of_getElem? (i := 680) (by decide +kernel)) rfl
theorem qw_681 : Cond.selects RX4 yX4_pickPlan yX4_pickPlan ∈ sp_tbl := sp_in (List.mem_of_getElem? (i := 681) (by decide +kernel)) rfl
theorem qw_682 : Cond.code yX4_pickPlan cX4_pickPlan 4 none ∈ sp_tbl := sp_in (List.mem_of_getElem? (i := 682) (by decide +kernel)) rfl
theorem qw_683 : Cond.constant RX4 156 (100000000) ∈ sp_tbl := sp_in (List.mem_of_getElem? (i := 683) (by decide +kernel)) rfl
theorem qw_684 : Cond.methodLink RX4 157 yX4_pickFirst ∈ sp_tbl := sp_in (List.mem_of_getElem? (i := 684) (by decide +kernel)) rfl
theorem qw_686 : Cond.instanceMethod yX4_pickFirst ∈ sp_tbl := sp_in (List.mem_of_getElem? (i := 686) (by decide +kernel)) rfl
theorem qw_687 : Cond.code yX4_pickFirst cX4_pickFirst 2 none ∈ sp_tbl := sp_in (List.mem_of_getElem? (i := 687) (by decide +kernel)) rfl
theorem qw_688 : Cond.methodLink RX4 163 yX4_pick ∈ sp_tbl := sp_in (List.mem_of_getElem? (i := 688) (by decide +kernel)) rfl
theorem qw_690 : Cond.instanceMethod yX4_pick ∈ sp_tbl := sp_in (List.mem_of_getElem? (i := 690) (by decide +kernel)) rfl
theorem qw_691 : Cond.code yX4_pick cX4_pick 3 none ∈ sp_tbl := sp_in (List.mem_of_getElem? (i := 691) (by decide +kernel)) rfl
theorem qw_692 : Cond.methodLink RX4 160 yX4_pickNext ∈ sp_tbl := sp_in (List.mem_of_getElem? (i := 692) (by decide +kernel)) rfl
theorem qw_694 : Cond.instanceMethod yX4_pickNext ∈ sp_tbl := sp_in (List.mem_of_getElem? (i := 694) (by decide +kernel)) rfl
theorem qw_695 : Cond.code yX4_pickNext cX4_pickNext 10 (some .int) ∈ sp_tbl := sp_in (List.mem_of_getElem? (i := 695) (by decide +kernel)) rfl
theorem qw_696 : Cond.methodLink RX4 166 yX4_weightWith ∈ sp_tbl := sp_in (List.mem_of_getElem? (i := 696) (by decide +kernel)) rfl
theorem qw_698 : Cond.instanceMethod yX4_weightWith ∈ sp_tbl := sp_in (List.mem_of_getElem? (i := 698) (by decide +kernel)) rfl
theorem qw_699 : Cond.code yX4_weightWith cX4_weightWith 4 (some .int) ∈ sp_tbl := sp_in (List.mem_of_getElem? (i := 699) (by decide +kernel)) rfl
theorem qw_700 : Cond.methodLink RX7 172 yX7_costOf ∈ sp_tbl := sp_in (List.mem_of_getElem? (i := 700) (by decide +kernel)) rfl
theorem qw_701 : Cond.static yX7_costOf ∈ sp_tbl := sp_in (List.mem_of_getElem? (i := 701) (by decide +kernel)) rfl
theorem qw_702 : Cond.code yX7_costOf cX7_costOf 1 (some .int) ∈ sp_tbl := sp_in (List.mem_of_getElem? (i := 702) (by decide +kernel)) rfl
theorem qw_703 : Cond.constant RX7 175 (100000000) ∈ sp_tbl := sp_in (List.mem_of_getElem? (i := 703) (by decide +kernel)) rfl
theorem qw_705 : Cond.instanceMethod yX7_spot ∈ sp_tbl := sp_in (List.mem_of_getElem? (i := 705) (by decide +kernel)) rfl
theorem qw_706 : Cond.selects RX7 yX7_spot yX7_spot ∈ sp_tbl := sp_in (List.mem_of_getElem? (i := 706) (by decide +kernel)) rfl
theorem qw_707 : Cond.code yX7_spot cX7_spot 3 (some .int) ∈ sp_tbl := sp_in (List.mem_of_getElem? (i := 707) (by decide +kernel)) rfl
theorem qw_709 : Cond.instanceMethod yX7_through ∈ sp_tbl := sp_in (List.mem_of_getElem? (i := 709) (by decide +kernel)) rfl
theorem qw_710 : Cond.selects RX7 yX7_through yX7_through ∈ sp_tbl := sp_in (List.mem_of_getElem? (i := 710) (by decide +kernel)) rfl
theorem qw_711 : Cond.code yX7_through cX7_through 2 (some .int) ∈ sp_tbl := sp_in (List.mem_of_getElem? (i := 711) (by decide +kernel)) rfl
theorem qw_712 : Cond.methodLink RX7 189 yX7_findPassages ∈ sp_tbl := sp_in (List.mem_of_getElem? (i := 712) (by decide +kernel)) rfl
theorem qw_714 : Cond.instanceMethod yX7_findPassages ∈ sp_tbl := sp_in (List.mem_of_getElem? (i := 714) (by decide +kernel)) rfl
theorem qw_715 : Cond.code yX7_findPassages cX7_findPassages 1 none ∈ sp_tbl := sp_in (List.mem_of_getElem? (i := 715) (by decide +kernel)) rfl
theorem qw_716 : Cond.methodLink RX7 271 yX3_trace ∈ sp_tbl := sp_in (List.mem_of_getElem? (i := 716) (by decide +kernel)) rfl
theorem qw_717 : Cond.instanceMethod yX3_trace ∈ sp_tbl := sp_in (List.mem_of_getElem? (i := 717) (by decide +kernel)) rfl
theorem qw_718 : Cond.selects RX3 yX3_trace yX3_trace ∈ sp_tbl := sp_in (List.mem_of_getElem? (i := 718) (by decide +kernel)) rfl
theorem qw_719 : Cond.code yX3_trace cX3_trace 3 none ∈ sp_tbl := sp_in (List.mem_of_getElem? (i := 719) (by decide +kernel)) rfl
theorem qw_720 : Cond.constant RX3 37 (100000000) ∈ sp_tbl := sp_in (List.mem_of_getElem? (i := 720) (by decide +kernel)) rfl
theorem qw_721 : Cond.methodLink RX3 38 yX3_traceFrom ∈ sp_tbl := sp_in (List.mem_of_getElem? (i := 721) (by decide +kernel)) rfl
theorem qw_723 : Cond.instanceMethod yX3_traceFrom ∈ sp_tbl := sp_in (List.mem_of_getElem? (i := 723) (by decide +kernel)) rfl
theorem qw_724 : Cond.code yX3_traceFrom cX3_traceFrom 10 none ∈ sp_tbl := sp_in (List.mem_of_getElem? (i := 724) (by decide +kernel)) rfl
theorem qw_725 : Cond.methodLink RX3 42 yX4_towerWeight ∈ sp_tbl := sp_in (List.mem_of_getElem? (i := 725) (by decide +kernel)) rfl
theorem qw_726 : Cond.constant RX3 46 (-1000000000) ∈ sp_tbl := sp_in (List.mem_of_getElem? (i := 726) (by decide +kernel)) rfl
theorem qw_727 : Cond.methodLink RX3 47 yX3_leastInto ∈ sp_tbl := sp_in (List.mem_of_getElem? (i := 727) (by decide +kernel)) rfl
theorem qw_729 : Cond.instanceMethod yX3_leastInto ∈ sp_tbl := sp_in (List.mem_of_getElem? (i := 729) (by decide +kernel)) rfl
theorem qw_730 : Cond.code yX3_leastInto cX3_leastInto 9 (some .int) ∈ sp_tbl := sp_in (List.mem_of_getElem? (i := 730) (by decide +kernel)) rfl
theorem qw_731 : Cond.methodLink RX3 68 Lib.Math.min.name ∈ sp_tbl := sp_in (List.mem_of_getElem? (i := 731) (by decide +kernel)) rfl
theorem qw_732 : Cond.methodLink RX3 55 yX4_spanOf ∈ sp_tbl := sp_in (List.mem_of_getElem? (i := 732) (by decide +kernel)) rfl
theorem qw_733 : Cond.methodLink RX3 76 yX4_pullBefore ∈ sp_tbl := sp_in (List.mem_of_getElem? (i := 733) (by decide +kernel)) rfl
theorem qw_734 : Cond.methodLink RX3 51 yX4_longestFrom ∈ sp_tbl := sp_in (List.mem_of_getElem? (i := 734) (by decide +kernel)) rfl
theorem qw_735 : Cond.methodLink RX3 65 yX4_pullAfter ∈ sp_tbl := sp_in (List.mem_of_getElem? (i := 735) (by decide +kernel)) rfl
theorem qw_740 : Cond.methodLink RX7 195 yX4_isBuilt ∈ sp_tbl := sp_in (List.mem_of_getElem? (i := 740) (by decide +kernel)) rfl
theorem qw_741 : Cond.instanceMethod yX4_isBuilt ∈ sp_tbl := sp_in (List.mem_of_getElem? (i := 741) (by decide +kernel)) rfl
theorem qw_742 : Cond.selects RX4 yX4_isBuilt yX4_isBuilt ∈ sp_tbl := sp_in (List.mem_of_getElem? (i := 742) (by decide +kernel)) rfl
theorem qw_743 : Cond.code yX4_isBuilt cX4_isBuilt 2 (some .boolean) ∈ sp_tbl := sp_in (List.mem_of_getElem? (i := 743) (by decide +kernel)) rfl
theorem qw_744 : Cond.methodLink RX4 78 yX2_countKinds ∈ sp_tbl := sp_in (List.mem_of_getElem? (i := 744) (by decide +kernel)) rfl
theorem qw_745 : Cond.methodLink RX7 199 yX4_build ∈ sp_tbl := sp_in (List.mem_of_getElem? (i := 745) (by decide +kernel)) rfl
theorem qw_746 : Cond.instanceMethod yX4_build ∈ sp_tbl := sp_in (List.mem_of_getElem? (i := 746) (by decide +kernel)) rfl
theorem qw_747 : Cond.selects RX4 yX4_build yX4_build ∈ sp_tbl := sp_in (List.mem_of_getElem? (i := 747) (by decide +kernel)) rfl
theorem qw_748 : Cond.code yX4_build cX4_build 2 none ∈ sp_tbl := sp_in (List.mem_of_getElem? (i := 748) (by decide +kernel)) rfl
theorem qw_762 : Cond.instanceMethod yX7_all ∈ sp_tbl := sp_in (List.mem_of_getElem? (i := 762) (by decide +kernel)) rfl
theorem qw_763 : Cond.selects RX7 yX7_all yX7_all ∈ sp_tbl := sp_in (List.mem_of_getElem? (i := 763) (by decide +kernel)) rfl
theorem qw_764 : Cond.code yX7_all cX7_all 2 (some .int) ∈ sp_tbl := sp_in (List.mem_of_getElem? (i := 764) (by decide +kernel)) rfl
theorem qw_765 : Cond.methodLink RX7 208 yX2_planCost ∈ sp_tbl := sp_in (List.mem_of_getElem? (i := 765) (by decide +kernel)) rfl
theorem qw_766 : Cond.instanceMethod yX2_planCost ∈ sp_tbl := sp_in (List.mem_of_getElem? (i := 766) (by decide +kernel)) rfl
theorem qw_767 : Cond.selects RX2 yX2_planCost yX2_planCost ∈ sp_tbl := sp_in (List.mem_of_getElem? (i := 767) (by decide +kernel)) rfl
theorem qw_768 : Cond.code yX2_planCost cX2_planCost 3 (some .int) ∈ sp_tbl := sp_in (List.mem_of_getElem? (i := 768) (by decide +kernel)) rfl
theorem qw_769 : Cond.methodLink RX2 62 yX2_towerCost ∈ sp_tbl := sp_in (List.mem_of_getElem? (i := 769) (by decide +kernel)) rfl
theorem qw_770 : Cond.methodLink RX7 214 yX2_countBarred ∈ sp_tbl := sp_in (List.mem_of_getElem? (i := 770) (by decide +kernel)) rfl
theorem qw_771 : Cond.instanceMethod yX2_countBarred ∈ sp_tbl := sp_in (List.mem_of_getElem? (i := 771) (by decide +kernel)) rfl
theorem qw_772 : Cond.selects RX2 yX2_countBarred yX2_countBarred ∈ sp_tbl := sp_in (List.mem_of_getElem? (i := 772) (by decide +kernel)) rfl
theorem qw_773 : Cond.code yX2_countBarred cX2_countBarred 3 (some .int) ∈ sp_tbl := sp_in (List.mem_of_getElem? (i := 773) (by decide +kernel)) rfl
theorem qw_778 : Cond.methodLink RX7 218 yX1_restore ∈ sp_tbl := sp_in (List.mem_of_getElem? (i := 778) (by decide +kernel)) rfl
theorem qw_779 : Cond.instanceMethod yX1_restore ∈ sp_tbl := sp_in (List.mem_of_getElem? (i := 779) (by decide +kernel)) rfl
theorem qw_780 : Cond.selects RX1 yX1_restore yX1_restore ∈ sp_tbl := sp_in (List.mem_of_getElem? (i := 780) (by decide +kernel)) rfl
theorem qw_781 : Cond.code yX1_restore cX1_restore 2 none ∈ sp_tbl := sp_in (List.mem_of_getElem? (i := 781) (by decide +kernel)) rfl
theorem qw_783 : Cond.instanceMethod yX7_told ∈ sp_tbl := sp_in (List.mem_of_getElem? (i := 783) (by decide +kernel)) rfl
theorem qw_784 : Cond.selects RX7 yX7_told yX7_told ∈ sp_tbl := sp_in (List.mem_of_getElem? (i := 784) (by decide +kernel)) rfl
theorem qw_785 : Cond.code yX7_told cX7_told 2 (some .int) ∈ sp_tbl := sp_in (List.mem_of_getElem? (i := 785) (by decide +kernel)) rfl
theorem qw_790 : Cond.constantLong RX7 234 (2293) ∈ sp_tbl := sp_in (List.mem_of_getElem? (i := 790) (by decide +kernel)) rfl
theorem qw_791 : Cond.constantLong RX7 236 (31) ∈ sp_tbl := sp_in (List.mem_of_getElem? (i := 791) (by decide +kernel)) rfl
theorem qw_792 : Cond.methodLink RX7 238 yX7_told ∈ sp_tbl := sp_in (List.mem_of_getElem? (i := 792) (by decide +kernel)) rfl
theorem qw_793 : Cond.methodLink RX7 241 yX7_all ∈ sp_tbl := sp_in (List.mem_of_getElem? (i := 793) (by decide +kernel)) rfl
theorem qw_794 : Cond.methodLink RX7 244 yX7_place ∈ sp_tbl := sp_in (List.mem_of_getElem? (i := 794) (by decide +kernel)) rfl
theorem qw_795 : Cond.methodLink RX7 247 yX7_flaw ∈ sp_tbl := sp_in (List.mem_of_getElem? (i := 795) (by decide +kernel)) rfl
theorem qw_796 : Cond.methodLink RX7 250 yX7_cheapest ∈ sp_tbl := sp_in (List.mem_of_getElem? (i := 796) (by decide +kernel)) rfl
theorem qw_797 : Cond.methodLink RX7 253 yX7_spot ∈ sp_tbl := sp_in (List.mem_of_getElem? (i := 797) (by decide +kernel)) rfl
theorem qw_798 : Cond.methodLink RX7 256 yX7_through ∈ sp_tbl := sp_in (List.mem_of_getElem? (i := 798) (by decide +kernel)) rfl
theorem qw_805 : Cond.methodLink RX8 53 yX8_asAtFirst ∈ sp_tbl := sp_in (List.mem_of_getElem? (i := 805) (by decide +kernel)) rfl
theorem qw_806 : Cond.static yX8_asAtFirst ∈ sp_tbl := sp_in (List.mem_of_getElem? (i := 806) (by decide +kernel)) rfl
theorem qw_807 : Cond.code yX8_asAtFirst cX8_asAtFirst 3 none ∈ sp_tbl := sp_in (List.mem_of_getElem? (i := 807) (by decide +kernel)) rfl
theorem qw_808 : Cond.methodLink RX8 57 yX8_in ∈ sp_tbl := sp_in (List.mem_of_getElem? (i := 808) (by decide +kernel)) rfl
theorem qw_809 : Cond.static yX8_in ∈ sp_tbl := sp_in (List.mem_of_getElem? (i := 809) (by decide +kernel)) rfl
theorem qw_810 : Cond.code yX8_in cX8_in 3 (some .boolean) ∈ sp_tbl := sp_in (List.mem_of_getElem? (i := 810) (by decide +kernel)) rfl
theorem qw_811 : Cond.fieldLink RX8 7 RX8 (TX8 0).2.1 (TX8 0).2.2.1 ∈ sp_tbl := sp_in (List.mem_of_getElem? (i := 811) (by decide +kernel)) rfl
theorem qw_812 : Cond.fieldLink RX8 13 RX8 (TX8 1).2.1 (TX8 1).2.2.1 ∈ sp_tbl := sp_in (List.mem_of_getElem? (i := 812) (by decide +kernel)) rfl
theorem qw_813 : Cond.fieldLink RX8 65 RX8 (TX8 2).2.1 (TX8 2).2.2.1 ∈ sp_tbl := sp_in (List.mem_of_getElem? (i := 813) (by decide +kernel)) rfl
theorem qw_814 : Cond.fieldLink RX8 61 RX8 (TX8 3).2.1 (TX8 3).2.2.1 ∈ sp_tbl := sp_in (List.mem_of_getElem? (i := 814) (by decide +kernel)) rfl
theorem qw_815 : Cond.fieldLink RX8 16 RX8 (TX8 4).2.1 (TX8 4).2.2.1 ∈ sp_tbl := sp_in (List.mem_of_getElem? (i := 815) (by decide +kernel)) rfl
theorem qw_816 : Cond.fieldLink RX8 75 RX8 (TX8 5).2.1 (TX8 5).2.2.1 ∈ sp_tbl := sp_in (List.mem_of_getElem? (i := 816) (by decide +kernel)) rfl
theorem qw_817 : Cond.fieldLink RX8 19 RX8 (TX8 6).2.1 (TX8 6).2.2.1 ∈ sp_tbl := sp_in (List.mem_of_getElem? (i := 817) (by decide +kernel)) rfl
theorem qw_818 : Cond.fieldLink RX8 78 RX8 (TX8 7).2.1 (TX8 7).2.2.1 ∈ sp_tbl := sp_in (List.mem_of_getElem? (i := 818) (by decide +kernel)) rfl
theorem qw_819 : Cond.fieldLink RX8 84 RX8 (TX8 8).2.1 (TX8 8).2.2.1 ∈ sp_tbl := sp_in (List.mem_of_getElem? (i := 819) (by decide +kernel)) rfl
theorem qw_820 : Cond.fieldLink RX8 22 RX8 (TX8 9).2.1 (TX8 9).2.2.1 ∈ sp_tbl := sp_in (List.mem_of_getElem? (i := 820) (by decide +kernel)) rfl
theorem qw_821 : Cond.fieldLink RX8 175 RX8 (TX8 10).2.1 (TX8 10).2.2.1 ∈ sp_tbl := sp_in (List.mem_of_getElem? (i := 821) (by decide +kernel)) rfl
theorem qw_822 : Cond.fieldLink RX8 25 RX8 (TX8 11).2.1 (TX8 11).2.2.1 ∈ sp_tbl := sp_in (List.mem_of_getElem? (i := 822) (by decide +kernel)) rfl
theorem qw_823 : Cond.fieldLink RX8 29 RX8 (TX8 12).2.1 (TX8 12).2.2.1 ∈ sp_tbl := sp_in (List.mem_of_getElem? (i := 823) (by decide +kernel)) rfl
theorem qw_824 : Cond.fieldLink RX8 32 RX8 (TX8 13).2.1 (TX8 13).2.2.1 ∈ sp_tbl := sp_in (List.mem_of_getElem? (i := 824) (by decide +kernel)) rfl
theorem qw_825 : Cond.fieldLink RX8 35 RX8 (TX8 14).2.1 (TX8 14).2.2.1 ∈ sp_tbl := sp_in (List.mem_of_getElem? (i := 825) (by decide +kernel)) rfl
theorem qw_826 : Cond.fieldLink RX8 38 RX8 (TX8 15).2.1 (TX8 15).2.2.1 ∈ sp_tbl := sp_in (List.mem_of_getElem? (i := 826) (by decide +kernel)) rfl
theorem qw_827 : Cond.fieldLink RX8 41 RX8 (TX8 16).2.1 (TX8 16).2.2.1 ∈ sp_tbl := sp_in (List.mem_of_getElem? (i := 827) (by decide +kernel)) rfl
theorem qw_828 : Cond.fieldLink RX8 44 RX8 (TX8 17).2.1 (TX8 17).2.2.1 ∈ sp_tbl := sp_in (List.mem_of_getElem? (i := 828) (by decide +kernel)) rfl
theorem qw_829 : Cond.fieldLink RX8 210 RX8 (TX8 18).2.1 (TX8 18).2.2.1 ∈ sp_tbl := sp_in (List.mem_of_getElem? (i := 829) (by decide +kernel)) rfl
theorem qw_830 : Cond.fieldLink RX8 219 RX8 (TX8 19).2.1 (TX8 19).2.2.1 ∈ sp_tbl := sp_in (List.mem_of_getElem? (i := 830) (by decide +kernel)) rfl
theorem qw_831 : Cond.fieldLink RX8 222 RX8 (TX8 20).2.1 (TX8 20).2.2.1 ∈ sp_tbl := sp_in (List.mem_of_getElem? (i := 831) (by decide +kernel)) rfl
theorem qw_832 : Cond.fieldLink RX8 225 RX8 (TX8 21).2.1 (TX8 21).2.2.1 ∈ sp_tbl := sp_in (List.mem_of_getElem? (i := 832) (by decide +kernel)) rfl
theorem qw_833 : Cond.fieldLink RX8 213 RX8 (TX8 22).2.1 (TX8 22).2.2.1 ∈ sp_tbl := sp_in (List.mem_of_getElem? (i := 833) (by decide +kernel)) rfl
theorem qw_834 : Cond.fieldLink RX8 216 RX8 (TX8 23).2.1 (TX8 23).2.2.1 ∈ sp_tbl := sp_in (List.mem_of_getElem? (i := 834) (by decide +kernel)) rfl
theorem qw_835 : Cond.fieldLink RX8 47 RX8 (TX8 24).2.1 (TX8 24).2.2.1 ∈ sp_tbl := sp_in (List.mem_of_getElem? (i := 835) (by decide +kernel)) rfl
theorem qw_836 : Cond.fieldLink RX8 231 RX8 (TX8 25).2.1 (TX8 25).2.2.1 ∈ sp_tbl := sp_in (List.mem_of_getElem? (i := 836) (by decide +kernel)) rfl
theorem qw_837 : Cond.fieldLink RX8 50 RX8 (TX8 26).2.1 (TX8 26).2.2.1 ∈ sp_tbl := sp_in (List.mem_of_getElem? (i := 837) (by decide +kernel)) rfl
theorem qw_897 : Cond.methodLink RX8 68 yX8_no ∈ sp_tbl := sp_in (List.mem_of_getElem? (i := 897) (by decide +kernel)) rfl
theorem qw_899 : Cond.instanceMethod yX8_no ∈ sp_tbl := sp_in (List.mem_of_getElem? (i := 899) (by decide +kernel)) rfl
theorem qw_900 : Cond.code yX8_no cX8_no 1 (some .int) ∈ sp_tbl := sp_in (List.mem_of_getElem? (i := 900) (by decide +kernel)) rfl
theorem qw_905 : Cond.methodLink RX8 72 yX8_bad ∈ sp_tbl := sp_in (List.mem_of_getElem? (i := 905) (by decide +kernel)) rfl
theorem qw_907 : Cond.instanceMethod yX8_bad ∈ sp_tbl := sp_in (List.mem_of_getElem? (i := 907) (by decide +kernel)) rfl
theorem qw_908 : Cond.code yX8_bad cX8_bad 1 (some .int) ∈ sp_tbl := sp_in (List.mem_of_getElem? (i := 908) (by decide +kernel)) rfl
theorem qw_917 : Cond.methodLink RX8 114 yX8_readsItem ∈ sp_tbl := sp_in (List.mem_of_getElem? (i := 917) (by decide +kernel)) rfl
theorem qw_919 : Cond.instanceMethod yX8_readsItem ∈ sp_tbl := sp_in (List.mem_of_getElem? (i := 919) (by decide +kernel)) rfl
theorem qw_920 : Cond.code yX8_readsItem cX8_readsItem 3 (some .boolean) ∈ sp_tbl := sp_in (List.mem_of_getElem? (i := 920) (by decide +kernel)) rfl
theorem qw_921 : Cond.methodLink RX8 81 yX8_here ∈ sp_tbl := sp_in (List.mem_of_getElem? (i := 921) (by decide +kernel)) rfl
theorem qw_923 : Cond.instanceMethod yX8_here ∈ sp_tbl := sp_in (List.mem_of_getElem? (i := 923) (by decide +kernel)) rfl
theorem qw_924 : Cond.code yX8_here cX8_here 1 (some .int) ∈ sp_tbl := sp_in (List.mem_of_getElem? (i := 924) (by decide +kernel)) rfl
theorem qw_925 : Cond.methodLink RX8 94 yX8_readsGrounds ∈ sp_tbl := sp_in (List.mem_of_getElem? (i := 925) (by decide +kernel)) rfl
theorem qw_927 : Cond.instanceMethod yX8_readsGrounds ∈ sp_tbl := sp_in (List.mem_of_getElem? (i := 927) (by decide +kernel)) rfl
theorem qw_928 : Cond.code yX8_readsGrounds cX8_readsGrounds 2 (some .boolean) ∈ sp_tbl := sp_in (List.mem_of_getElem? (i := 928) (by decide +kernel)) rfl
theorem qw_929 : Cond.methodLink RX8 87 yX8_isNumber ∈ sp_tbl := sp_in (List.mem_of_getElem? (i := 929) (by decide +kernel)) rfl
theorem qw_931 : Cond.instanceMethod yX8_isNumber ∈ sp_tbl := sp_in (List.mem_of_getElem? (i := 931) (by decide +kernel)) rfl
theorem qw_932 : Cond.code yX8_isNumber cX8_isNumber 5 (some .boolean) ∈ sp_tbl := sp_in (List.mem_of_getElem? (i := 932) (by decide +kernel)) rfl
theorem qw_933 : Cond.methodLink RX8 90 yX8_comes ∈ sp_tbl := sp_in (List.mem_of_getElem? (i := 933) (by decide +kernel)) rfl
theorem qw_935 : Cond.instanceMethod yX8_comes ∈ sp_tbl := sp_in (List.mem_of_getElem? (i := 935) (by decide +kernel)) rfl
theorem qw_936 : Cond.code yX8_comes cX8_comes 2 (some .boolean) ∈ sp_tbl := sp_in (List.mem_of_getElem? (i := 936) (by decide +kernel)) rfl
theorem qw_937 : Cond.methodLink RX8 98 yX8_readsNeed ∈ sp_tbl := sp_in (List.mem_of_getElem? (i := 937) (by decide +kernel)) rfl
theorem qw_939 : Cond.instanceMethod yX8_readsNeed ∈ sp_tbl := sp_in (List.mem_of_getElem? (i := 939) (by decide +kernel)) rfl
theorem qw_940 : Cond.code yX8_readsNeed cX8_readsNeed 4 (some .boolean) ∈ sp_tbl := sp_in (List.mem_of_getElem? (i := 940) (by decide +kernel)) rfl
theorem qw_941 : Cond.methodLink RX8 101 yX8_readsPrice ∈ sp_tbl := sp_in (List.mem_of_getElem? (i := 941) (by decide +kernel)) rfl
theorem qw_943 : Cond.instanceMethod yX8_readsPrice ∈ sp_tbl := sp_in (List.mem_of_getElem? (i := 943) (by decide +kernel)) rfl
theorem qw_944 : Cond.code yX8_readsPrice cX8_readsPrice 3 (some .boolean) ∈ sp_tbl := sp_in (List.mem_of_getElem? (i := 944) (by decide +kernel)) rfl
theorem qw_945 : Cond.methodLink RX8 104 yX8_readsBarred ∈ sp_tbl := sp_in (List.mem_of_getElem? (i := 945) (by decide +kernel)) rfl
theorem qw_947 : Cond.instanceMethod yX8_readsBarred ∈ sp_tbl := sp_in (List.mem_of_getElem? (i := 947) (by decide +kernel)) rfl
theorem qw_948 : Cond.code yX8_readsBarred cX8_readsBarred 2 (some .boolean) ∈ sp_tbl := sp_in (List.mem_of_getElem? (i := 948) (by decide +kernel)) rfl
theorem qw_949 : Cond.methodLink RX8 107 yX8_readsTwo ∈ sp_tbl := sp_in (List.mem_of_getElem? (i := 949) (by decide +kernel)) rfl
theorem qw_951 : Cond.instanceMethod yX8_readsTwo ∈ sp_tbl := sp_in (List.mem_of_getElem? (i := 951) (by decide +kernel)) rfl
theorem qw_952 : Cond.code yX8_readsTwo cX8_readsTwo 7 (some .boolean) ∈ sp_tbl := sp_in (List.mem_of_getElem? (i := 952) (by decide +kernel)) rfl
theorem qw_953 : Cond.methodLink RX8 111 yX8_readsOne ∈ sp_tbl := sp_in (List.mem_of_getElem? (i := 953) (by decide +kernel)) rfl
theorem qw_955 : Cond.instanceMethod yX8_readsOne ∈ sp_tbl := sp_in (List.mem_of_getElem? (i := 955) (by decide +kernel)) rfl
theorem qw_956 : Cond.code yX8_readsOne cX8_readsOne 5 (some .boolean) ∈ sp_tbl := sp_in (List.mem_of_getElem? (i := 956) (by decide +kernel)) rfl
theorem qw_957 : Cond.methodLink RX8 118 yX8_keepsState ∈ sp_tbl := sp_in (List.mem_of_getElem? (i := 957) (by decide +kernel)) rfl
theorem qw_959 : Cond.instanceMethod yX8_keepsState ∈ sp_tbl := sp_in (List.mem_of_getElem? (i := 959) (by decide +kernel)) rfl
theorem qw_960 : Cond.code yX8_keepsState cX8_keepsState 2 none ∈ sp_tbl := sp_in (List.mem_of_getElem? (i := 960) (by decide +kernel)) rfl
theorem qw_965 : Cond.methodLink RX8 121 yX8_isPlace ∈ sp_tbl := sp_in (List.mem_of_getElem? (i := 965) (by decide +kernel)) rfl
theorem qw_967 : Cond.instanceMethod yX8_isPlace ∈ sp_tbl := sp_in (List.mem_of_getElem? (i := 967) (by decide +kernel)) rfl
theorem qw_968 : Cond.code yX8_isPlace cX8_isPlace 2 (some .boolean) ∈ sp_tbl := sp_in (List.mem_of_getElem? (i := 968) (by decide +kernel)) rfl
theorem qw_969 : Cond.methodLink RX8 124 yX8_placeIs ∈ sp_tbl := sp_in (List.mem_of_getElem? (i := 969) (by decide +kernel)) rfl
theorem qw_971 : Cond.instanceMethod yX8_placeIs ∈ sp_tbl := sp_in (List.mem_of_getElem? (i := 971) (by decide +kernel)) rfl
theorem qw_972 : Cond.code yX8_placeIs cX8_placeIs 3 (some .int) ∈ sp_tbl := sp_in (List.mem_of_getElem? (i := 972) (by decide +kernel)) rfl
theorem qw_977 : Cond.methodLink RX8 128 yX8_mostOf ∈ sp_tbl := sp_in (List.mem_of_getElem? (i := 977) (by decide +kernel)) rfl
theorem qw_978 : Cond.static yX8_mostOf ∈ sp_tbl := sp_in (List.mem_of_getElem? (i := 978) (by decide +kernel)) rfl
theorem qw_979 : Cond.code yX8_mostOf cX8_mostOf 1 (some .int) ∈ sp_tbl := sp_in (List.mem_of_getElem? (i := 979) (by decide +kernel)) rfl
theorem qw_984 : Cond.methodLink RX8 132 yX8_mayBe ∈ sp_tbl := sp_in (List.mem_of_getElem? (i := 984) (by decide +kernel)) rfl
theorem qw_985 : Cond.static yX8_mayBe ∈ sp_tbl := sp_in (List.mem_of_getElem? (i := 985) (by decide +kernel)) rfl
theorem qw_986 : Cond.code yX8_mayBe cX8_mayBe 2 (some .boolean) ∈ sp_tbl := sp_in (List.mem_of_getElem? (i := 986) (by decide +kernel)) rfl
theorem qw_991 : Cond.methodLink RX8 153 yX8_towers ∈ sp_tbl := sp_in (List.mem_of_getElem? (i := 991) (by decide +kernel)) rfl
theorem qw_993 : Cond.instanceMethod yX8_towers ∈ sp_tbl := sp_in (List.mem_of_getElem? (i := 993) (by decide +kernel)) rfl
theorem qw_994 : Cond.code yX8_towers cX8_towers 3 (some .int) ∈ sp_tbl := sp_in (List.mem_of_getElem? (i := 994) (by decide +kernel)) rfl
theorem qw_995 : Cond.methodLink RX8 136 yX8_has ∈ sp_tbl := sp_in (List.mem_of_getElem? (i := 995) (by decide +kernel)) rfl
theorem qw_997 : Cond.instanceMethod yX8_has ∈ sp_tbl := sp_in (List.mem_of_getElem? (i := 997) (by decide +kernel)) rfl
theorem qw_998 : Cond.code yX8_has cX8_has 2 (some .boolean) ∈ sp_tbl := sp_in (List.mem_of_getElem? (i := 998) (by decide +kernel)) rfl
theorem qw_1007 : Cond.methodLink RX8 156 yX8_flaws ∈ sp_tbl := sp_in (List.mem_of_getElem? (i := 1007) (by decide +kernel)) rfl
theorem qw_1009 : Cond.instanceMethod yX8_flaws ∈ sp_tbl := sp_in (List.mem_of_getElem? (i := 1009) (by decide +kernel)) rfl
theorem qw_1010 : Cond.code yX8_flaws cX8_flaws 3 (some .int) ∈ sp_tbl := sp_in (List.mem_of_getElem? (i := 1010) (by decide +kernel)) rfl
theorem qw_1011 : Cond.methodLink RX8 169 yX8_isFlaw ∈ sp_tbl := sp_in (List.mem_of_getElem? (i := 1011) (by decide +kernel)) rfl
theorem qw_1013 : Cond.instanceMethod yX8_isFlaw ∈ sp_tbl := sp_in (List.mem_of_getElem? (i := 1013) (by decide +kernel)) rfl
theorem qw_1014 : Cond.code yX8_isFlaw cX8_isFlaw 7 (some .boolean) ∈ sp_tbl := sp_in (List.mem_of_getElem? (i := 1014) (by decide +kernel)) rfl
theorem qw_1015 : Cond.methodLink RX8 159 yX8_beside ∈ sp_tbl := sp_in (List.mem_of_getElem? (i := 1015) (by decide +kernel)) rfl
theorem qw_1017 : Cond.instanceMethod yX8_beside ∈ sp_tbl := sp_in (List.mem_of_getElem? (i := 1017) (by decide +kernel)) rfl
theorem qw_1018 : Cond.code yX8_beside cX8_beside 4 (some .int) ∈ sp_tbl := sp_in (List.mem_of_getElem? (i := 1018) (by decide +kernel)) rfl
theorem qw_1019 : Cond.methodLink RX8 162 yX8_holds ∈ sp_tbl := sp_in (List.mem_of_getElem? (i := 1019) (by decide +kernel)) rfl
theorem qw_1021 : Cond.instanceMethod yX8_holds ∈ sp_tbl := sp_in (List.mem_of_getElem? (i := 1021) (by decide +kernel)) rfl
theorem qw_1022 : Cond.code yX8_holds cX8_holds 7 (some .boolean) ∈ sp_tbl := sp_in (List.mem_of_getElem? (i := 1022) (by decide +kernel)) rfl
theorem qw_1023 : Cond.methodLink RX8 149 yX8_pullOf ∈ sp_tbl := sp_in (List.mem_of_getElem? (i := 1023) (by decide +kernel)) rfl
theorem qw_1025 : Cond.instanceMethod yX8_pullOf ∈ sp_tbl := sp_in (List.mem_of_getElem? (i := 1025) (by decide +kernel)) rfl
theorem qw_1026 : Cond.code yX8_pullOf cX8_pullOf 8 (some .int) ∈ sp_tbl := sp_in (List.mem_of_getElem? (i := 1026) (by decide +kernel)) rfl
theorem qw_1027 : Cond.methodLink RX8 142 yX8_top ∈ sp_tbl := sp_in (List.mem_of_getElem? (i := 1027) (by decide +kernel)) rfl
theorem qw_1029 : Cond.instanceMethod yX8_top ∈ sp_tbl := sp_in (List.mem_of_getElem? (i := 1029) (by decide +kernel)) rfl
theorem qw_1030 : Cond.code yX8_top cX8_top 3 (some .int) ∈ sp_tbl := sp_in (List.mem_of_getElem? (i := 1030) (by decide +kernel)) rfl
theorem qw_1031 : Cond.methodLink RX8 139 yX8_height ∈ sp_tbl := sp_in (List.mem_of_getElem? (i := 1031) (by decide +kernel)) rfl
theorem qw_1033 : Cond.instanceMethod yX8_height ∈ sp_tbl := sp_in (List.mem_of_getElem? (i := 1033) (by decide +kernel)) rfl
theorem qw_1034 : Cond.code yX8_height cX8_height 2 (some .int) ∈ sp_tbl := sp_in (List.mem_of_getElem? (i := 1034) (by decide +kernel)) rfl
theorem qw_1035 : Cond.methodLink RX8 165 yX8_isClear ∈ sp_tbl := sp_in (List.mem_of_getElem? (i := 1035) (by decide +kernel)) rfl
theorem qw_1037 : Cond.instanceMethod yX8_isClear ∈ sp_tbl := sp_in (List.mem_of_getElem? (i := 1037) (by decide +kernel)) rfl
theorem qw_1038 : Cond.code yX8_isClear cX8_isClear 7 (some .boolean) ∈ sp_tbl := sp_in (List.mem_of_getElem? (i := 1038) (by decide +kernel)) rfl
theorem qw_1039 : Cond.methodLink RX8 145 yX8_roomOf ∈ sp_tbl := sp_in (List.mem_of_getElem? (i := 1039) (by decide +kernel)) rfl
theorem qw_1041 : Cond.instanceMethod yX8_roomOf ∈ sp_tbl := sp_in (List.mem_of_getElem? (i := 1041) (by decide +kernel)) rfl
theorem qw_1042 : Cond.code yX8_roomOf cX8_roomOf 8 (some .int) ∈ sp_tbl := sp_in (List.mem_of_getElem? (i := 1042) (by decide +kernel)) rfl
theorem qw_1047 : Cond.methodLink RX8 172 yX8_flawIs ∈ sp_tbl := sp_in (List.mem_of_getElem? (i := 1047) (by decide +kernel)) rfl
theorem qw_1049 : Cond.instanceMethod yX8_flawIs ∈ sp_tbl := sp_in (List.mem_of_getElem? (i := 1049) (by decide +kernel)) rfl
theorem qw_1050 : Cond.code yX8_flawIs cX8_flawIs 5 (some .int) ∈ sp_tbl := sp_in (List.mem_of_getElem? (i := 1050) (by decide +kernel)) rfl
theorem qw_1063 : Cond.methodLink RX8 178 yX8_says ∈ sp_tbl := sp_in (List.mem_of_getElem? (i := 1063) (by decide +kernel)) rfl
theorem qw_1065 : Cond.instanceMethod yX8_says ∈ sp_tbl := sp_in (List.mem_of_getElem? (i := 1065) (by decide +kernel)) rfl
theorem qw_1066 : Cond.code yX8_says cX8_says 6 none ∈ sp_tbl := sp_in (List.mem_of_getElem? (i := 1066) (by decide +kernel)) rfl
theorem qw_1079 : Cond.methodLink RX8 228 yX8_laysLeast ∈ sp_tbl := sp_in (List.mem_of_getElem? (i := 1079) (by decide +kernel)) rfl
theorem qw_1081 : Cond.instanceMethod yX8_laysLeast ∈ sp_tbl := sp_in (List.mem_of_getElem? (i := 1081) (by decide +kernel)) rfl
theorem qw_1082 : Cond.code yX8_laysLeast cX8_laysLeast 8 none ∈ sp_tbl := sp_in (List.mem_of_getElem? (i := 1082) (by decide +kernel)) rfl
theorem qw_1083 : Cond.methodLink RX8 207 yX8_laysRests ∈ sp_tbl := sp_in (List.mem_of_getElem? (i := 1083) (by decide +kernel)) rfl
theorem qw_1085 : Cond.instanceMethod yX8_laysRests ∈ sp_tbl := sp_in (List.mem_of_getElem? (i := 1085) (by decide +kernel)) rfl
theorem qw_1086 : Cond.code yX8_laysRests cX8_laysRests 4 none ∈ sp_tbl := sp_in (List.mem_of_getElem? (i := 1086) (by decide +kernel)) rfl
theorem qw_1087 : Cond.methodLink RX8 200 yX8_lastFrom ∈ sp_tbl := sp_in (List.mem_of_getElem? (i := 1087) (by decide +kernel)) rfl
theorem qw_1089 : Cond.instanceMethod yX8_lastFrom ∈ sp_tbl := sp_in (List.mem_of_getElem? (i := 1089) (by decide +kernel)) rfl
theorem qw_1090 : Cond.code yX8_lastFrom cX8_lastFrom 2 (some .int) ∈ sp_tbl := sp_in (List.mem_of_getElem? (i := 1090) (by decide +kernel)) rfl
theorem qw_1091 : Cond.methodLink RX8 203 yX8_laysRest ∈ sp_tbl := sp_in (List.mem_of_getElem? (i := 1091) (by decide +kernel)) rfl
theorem qw_1093 : Cond.instanceMethod yX8_laysRest ∈ sp_tbl := sp_in (List.mem_of_getElem? (i := 1093) (by decide +kernel)) rfl
theorem qw_1094 : Cond.code yX8_laysRest cX8_laysRest 9 none ∈ sp_tbl := sp_in (List.mem_of_getElem? (i := 1094) (by decide +kernel)) rfl
theorem qw_1095 : Cond.methodLink RX8 186 yX8_pair ∈ sp_tbl := sp_in (List.mem_of_getElem? (i := 1095) (by decide +kernel)) rfl
theorem qw_1096 : Cond.static yX8_pair ∈ sp_tbl := sp_in (List.mem_of_getElem? (i := 1096) (by decide +kernel)) rfl
theorem qw_1097 : Cond.code yX8_pair cX8_pair 4 (some .int) ∈ sp_tbl := sp_in (List.mem_of_getElem? (i := 1097) (by decide +kernel)) rfl
theorem qw_1098 : Cond.methodLink RX8 190 yX8_maySpan ∈ sp_tbl := sp_in (List.mem_of_getElem? (i := 1098) (by decide +kernel)) rfl
theorem qw_1100 : Cond.instanceMethod yX8_maySpan ∈ sp_tbl := sp_in (List.mem_of_getElem? (i := 1100) (by decide +kernel)) rfl
theorem qw_1101 : Cond.code yX8_maySpan cX8_maySpan 5 (some .boolean) ∈ sp_tbl := sp_in (List.mem_of_getElem? (i := 1101) (by decide +kernel)) rfl
theorem qw_1102 : Cond.methodLink RX8 182 yX8_mayStand ∈ sp_tbl := sp_in (List.mem_of_getElem? (i := 1102) (by decide +kernel)) rfl
theorem qw_1104 : Cond.instanceMethod yX8_mayStand ∈ sp_tbl := sp_in (List.mem_of_getElem? (i := 1104) (by decide +kernel)) rfl
theorem qw_1105 : Cond.code yX8_mayStand cX8_mayStand 4 (some .boolean) ∈ sp_tbl := sp_in (List.mem_of_getElem? (i := 1105) (by decide +kernel)) rfl
theorem qw_1106 : Cond.methodLink RX8 193 yX8_cost ∈ sp_tbl := sp_in (List.mem_of_getElem? (i := 1106) (by decide +kernel)) rfl
theorem qw_1108 : Cond.instanceMethod yX8_cost ∈ sp_tbl := sp_in (List.mem_of_getElem? (i := 1108) (by decide +kernel)) rfl
theorem qw_1109 : Cond.code yX8_cost cX8_cost 3 (some .int) ∈ sp_tbl := sp_in (List.mem_of_getElem? (i := 1109) (by decide +kernel)) rfl
theorem qw_1110 : Cond.methodLink RX8 196 yX8_takesRest ∈ sp_tbl := sp_in (List.mem_of_getElem? (i := 1110) (by decide +kernel)) rfl
theorem qw_1112 : Cond.instanceMethod yX8_takesRest ∈ sp_tbl := sp_in (List.mem_of_getElem? (i := 1112) (by decide +kernel)) rfl
theorem qw_1113 : Cond.code yX8_takesRest cX8_takesRest 8 none ∈ sp_tbl := sp_in (List.mem_of_getElem? (i := 1113) (by decide +kernel)) rfl
theorem qw_1114 : Cond.constant RX8 185 (1000000) ∈ sp_tbl := sp_in (List.mem_of_getElem? (i := 1114) (by decide +kernel)) rfl
theorem qw_1115 : Cond.methodLink RX8 234 yX8_cheapestIs ∈ sp_tbl := sp_in (List.mem_of_getElem? (i := 1115) (by decide +kernel)) rfl
theorem qw_1117 : Cond.instanceMethod yX8_cheapestIs ∈ sp_tbl := sp_in (List.mem_of_getElem? (i := 1117) (by decide +kernel)) rfl
theorem qw_1118 : Cond.code yX8_cheapestIs cX8_cheapestIs 2 (some .int) ∈ sp_tbl := sp_in (List.mem_of_getElem? (i := 1118) (by decide +kernel)) rfl
theorem qw_1123 : Cond.methodLink RX8 237 yX8_laysSpots ∈ sp_tbl := sp_in (List.mem_of_getElem? (i := 1123) (by decide +kernel)) rfl
theorem qw_1125 : Cond.instanceMethod yX8_laysSpots ∈ sp_tbl := sp_in (List.mem_of_getElem? (i := 1125) (by decide +kernel)) rfl
theorem qw_1126 : Cond.code yX8_laysSpots cX8_laysSpots 4 none ∈ sp_tbl := sp_in (List.mem_of_getElem? (i := 1126) (by decide +kernel)) rfl
theorem qw_1131 : Cond.methodLink RX8 243 yX8_laysThrough ∈ sp_tbl := sp_in (List.mem_of_getElem? (i := 1131) (by decide +kernel)) rfl
theorem qw_1133 : Cond.instanceMethod yX8_laysThrough ∈ sp_tbl := sp_in (List.mem_of_getElem? (i := 1133) (by decide +kernel)) rfl
theorem qw_1134 : Cond.code yX8_laysThrough cX8_laysThrough 6 none ∈ sp_tbl := sp_in (List.mem_of_getElem? (i := 1134) (by decide +kernel)) rfl
theorem qw_1135 : Cond.methodLink RX8 240 yX8_laysAhead ∈ sp_tbl := sp_in (List.mem_of_getElem? (i := 1135) (by decide +kernel)) rfl
theorem qw_1137 : Cond.instanceMethod yX8_laysAhead ∈ sp_tbl := sp_in (List.mem_of_getElem? (i := 1137) (by decide +kernel)) rfl
theorem qw_1138 : Cond.code yX8_laysAhead cX8_laysAhead 10 none ∈ sp_tbl := sp_in (List.mem_of_getElem? (i := 1138) (by decide +kernel)) rfl
theorem qw_1151 : Cond.methodLink RX8 252 yX8_allOf ∈ sp_tbl := sp_in (List.mem_of_getElem? (i := 1151) (by decide +kernel)) rfl
theorem qw_1153 : Cond.instanceMethod yX8_allOf ∈ sp_tbl := sp_in (List.mem_of_getElem? (i := 1153) (by decide +kernel)) rfl
theorem qw_1154 : Cond.code yX8_allOf cX8_allOf 2 (some .int) ∈ sp_tbl := sp_in (List.mem_of_getElem? (i := 1154) (by decide +kernel)) rfl
theorem qw_1155 : Cond.methodLink RX8 246 yX8_costOfPlan ∈ sp_tbl := sp_in (List.mem_of_getElem? (i := 1155) (by decide +kernel)) rfl
theorem qw_1157 : Cond.instanceMethod yX8_costOfPlan ∈ sp_tbl := sp_in (List.mem_of_getElem? (i := 1157) (by decide +kernel)) rfl
theorem qw_1158 : Cond.code yX8_costOfPlan cX8_costOfPlan 3 (some .int) ∈ sp_tbl := sp_in (List.mem_of_getElem? (i := 1158) (by decide +kernel)) rfl
theorem qw_1159 : Cond.methodLink RX8 249 yX8_countOf ∈ sp_tbl := sp_in (List.mem_of_getElem? (i := 1159) (by decide +kernel)) rfl
theorem qw_1161 : Cond.instanceMethod yX8_countOf ∈ sp_tbl := sp_in (List.mem_of_getElem? (i := 1161) (by decide +kernel)) rfl
theorem qw_1162 : Cond.code yX8_countOf cX8_countOf 4 (some .int) ∈ sp_tbl := sp_in (List.mem_of_getElem? (i := 1162) (by decide +kernel)) rfl
theorem qw_1167 : Cond.methodLink RX8 255 yX8_toldOf ∈ sp_tbl := sp_in (List.mem_of_getElem? (i := 1167) (by decide +kernel)) rfl
theorem qw_1169 : Cond.instanceMethod yX8_toldOf ∈ sp_tbl := sp_in (List.mem_of_getElem? (i := 1169) (by decide +kernel)) rfl
theorem qw_1170 : Cond.code yX8_toldOf cX8_toldOf 2 (some .int) ∈ sp_tbl := sp_in (List.mem_of_getElem? (i := 1170) (by decide +kernel)) rfl
theorem qw_1175 : Cond.constantLong RX8 258 (2293) ∈ sp_tbl := sp_in (List.mem_of_getElem? (i := 1175) (by decide +kernel)) rfl
theorem qw_1176 : Cond.constantLong RX8 260 (31) ∈ sp_tbl := sp_in (List.mem_of_getElem? (i := 1176) (by decide +kernel)) rfl
theorem i0X0 : ∀ x ∈ u_ws RX0 TX0 4, x ∈ tables_1 ∧ goodWord x = true := by decide +kernel
theorem iX0 : ∀ x ∈ u_ws RX0 TX0 4, x ∈ sp_tbl := fun x hx => sp_in (List.mem_append_right _ (i0X0 x hx).1) (i0X0 x hx).2
theorem i0X1 : ∀ x ∈ u_ws RX1 TX1 3, x ∈ tables_1 ∧ goodWord x = true := by decide +kernel
theorem iX1 : ∀ x ∈ u_ws RX1 TX1 3, x ∈ sp_tbl := fun x hx => sp_in (List.mem_append_right _ (i0X1 x hx).1) (i0X1 x hx).2
theorem i0X2 : ∀ x ∈ u_ws RX2 TX2 3, x ∈ tables_1 ∧ goodWord x = true := by decide +kernel
theorem iX2 : ∀ x ∈ u_ws RX2 TX2 3, x ∈ sp_tbl := fun x hx => sp_in (List.mem_append_right _ (i0X2 x hx).1) (i0X2 x hx).2
theorem i0X3 : ∀ x ∈ u_ws RX3 TX3 4, x ∈ tables_1 ∧ goodWord x = true := by decide +kernel
theorem iX3 : ∀ x ∈ u_ws RX3 TX3 4, x ∈ sp_tbl := fun x hx => sp_in (List.mem_append_right _ (i0X3 x hx).1) (i0X3 x hx).2
theorem i0X4 : ∀ x ∈ u_ws RX4 TX4 17, x ∈ tables_1 ∧ goodWord x = true := by decide +kernel
theorem iX4 : ∀ x ∈ u_ws RX4 TX4 17, x ∈ sp_tbl := fun x hx => sp_in (List.mem_append_right _ (i0X4 x hx).1) (i0X4 x hx).2
theorem i0X5 : ∀ x ∈ u_ws RX5 TX5 3, x ∈ tables_1 ∧ goodWord x = true := by decide +kernel
theorem iX5 : ∀ x ∈ u_ws RX5 TX5 3, x ∈ sp_tbl := fun x hx => sp_in (List.mem_append_right _ (i0X5 x hx).1) (i0X5 x hx).2
theorem i0X6 : ∀ x ∈ u_ws RX6 TX6 5, x ∈ tables_1 ∧ goodWord x = true := by decide +kernel
theorem iX6 : ∀ x ∈ u_ws RX6 TX6 5, x ∈ sp_tbl := fun x hx => sp_in (List.mem_append_right _ (i0X6 x hx).1) (i0X6 x hx).2
theorem i0X7 : ∀ x ∈ u_ws RX7 TX7 13, x ∈ tables_1 ∧ goodWord x = true := by decide +kernel
theorem iX7 : ∀ x ∈ u_ws RX7 TX7 13, x ∈ sp_tbl := fun x hx => sp_in (List.mem_append_right _ (i0X7 x hx).1) (i0X7 x hx).2
theorem i0X8 : ∀ x ∈ u_ws RX8 TX8 27, x ∈ tables_1 ∧ goodWord x = true := by decide +kernel
theorem iX8 : ∀ x ∈ u_ws RX8 TX8 27, x ∈ sp_tbl := fun x hx => sp_in (List.mem_append_right _ (i0X8 x hx).1) (i0X8 x hx).2
