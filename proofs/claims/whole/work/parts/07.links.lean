/-! methods as bundles; what the tables say of calls and fields (printed by wip/whole/links.py) -/
abbrev mX11_init : pvM := (yX11_init, cX11_init, 4, none)
abbrev mJ9_min_7cf53 : pvM := (yJ9_min_7cf53, cJ9_min_7cf53, 2, some .int)
abbrev mJ9_max_7cf53 : pvM := (yJ9_max_7cf53, cJ9_max_7cf53, 2, some .int)
abbrev mX2_init : pvM := (yX2_init, cX2_init, 11, none)
abbrev mX10_init : pvM := (yX10_init, cX10_init, 2, none)
abbrev mX3_init : pvM := (yX3_init, cX3_init, 2, none)
abbrev mX9_init : pvM := (yX9_init, cX9_init, 1, none)
abbrev mX4_init : pvM := (yX4_init, cX4_init, 1, none)
abbrev mX7_init : pvM := (yX7_init, cX7_init, 1, none)
abbrev mX5_init : pvM := (yX5_init, cX5_init, 1, none)
abbrev mX8_init : pvM := (yX8_init, cX8_init, 1, none)
abbrev mX1_init : pvM := (yX1_init, cX1_init, 1, none)
abbrev mX6_init : pvM := (yX6_init, cX6_init, 1, none)
abbrev mX0_init : pvM := (yX0_init, cX0_init, 1, none)
abbrev mX11_cell : pvM := (yX11_cell, cX11_cell, 5, some .boolean)
abbrev mX2_has : pvM := (yX2_has, cX2_has, 2, some .boolean)
abbrev mX11_within : pvM := (yX11_within, cX11_within, 3, some .boolean)
abbrev mX3_tell : pvM := (yX3_tell, cX3_tell, 4, none)
abbrev mX11_bit : pvM := (yX11_bit, cX11_bit, 1, some .long)
abbrev mX11_changedFrom : pvM := (yX11_changedFrom, cX11_changedFrom, 3, none)
abbrev mX1_forgetFrom : pvM := (yX1_forgetFrom, cX1_forgetFrom, 2, none)
abbrev mX8_forget : pvM := (yX8_forget, cX8_forget, 1, none)
abbrev mX11_rules : pvM := (yX11_rules, cX11_rules, 4, some .boolean)
abbrev mX11_hole : pvM := (yX11_hole, cX11_hole, 2, some .int)
abbrev mX9_bore : pvM := (yX9_bore, cX9_bore, 4, some .int)
abbrev mX9_noteHoles : pvM := (yX9_noteHoles, cX9_noteHoles, 3, none)
abbrev mX9_openHoles : pvM := (yX9_openHoles, cX9_openHoles, 7, some .long)
abbrev mX11_plug : pvM := (yX11_plug, cX11_plug, 2, some .boolean)
abbrev mX9_hasHole : pvM := (yX9_hasHole, cX9_hasHole, 2, some .boolean)
abbrev mX9_close : pvM := (yX9_close, cX9_close, 3, none)
abbrev mX11_pour : pvM := (yX11_pour, cX11_pour, 3, some .int)
abbrev mX11_isRoom : pvM := (yX11_isRoom, cX11_isRoom, 2, some .boolean)
abbrev mX3_runSand : pvM := (yX3_runSand, cX3_runSand, 10, some .int)
abbrev mX3_fillLayer : pvM := (yX3_fillLayer, cX3_fillLayer, 10, some .int)
abbrev mX11_lowest : pvM := (yX11_lowest, cX11_lowest, 2, some .int)
abbrev mJ13_bitCount_95d88 : pvM := (yJ13_bitCount_95d88, cJ13_bitCount_95d88, 2, some .int)
abbrev mX2_spread : pvM := (yX2_spread, cX2_spread, 5, some .long)
abbrev mX3_noteFull : pvM := (yX3_noteFull, cX3_noteFull, 5, none)
abbrev mX11_fill : pvM := (yX11_fill, cX11_fill, 2, some .int)
abbrev mX11_trench : pvM := (yX11_trench, cX11_trench, 5, some .int)
abbrev mX2_holds : pvM := (yX2_holds, cX2_holds, 7, some .boolean)
abbrev mX2_step : pvM := (yX2_step, cX2_step, 3, some .int)
abbrev mX9_dig : pvM := (yX9_dig, cX9_dig, 9, some .int)
abbrev mX9_weekOfCut : pvM := (yX9_weekOfCut, cX9_weekOfCut, 3, some .int)
abbrev mX9_cellOfCut : pvM := (yX9_cellOfCut, cX9_cellOfCut, 3, some .int)
abbrev mX11_state : pvM := (yX11_state, cX11_state, 5, some .int)
abbrev mX11_isWeek : pvM := (yX11_isWeek, cX11_isWeek, 1, some .boolean)
abbrev mX4_addState : pvM := (yX4_addState, cX4_addState, 4, some .int)
abbrev mX1_tell : pvM := (yX1_tell, cX1_tell, 3, none)
abbrev mX11_burns : pvM := (yX11_burns, cX11_burns, 6, some .int)
abbrev mX11_hasState : pvM := (yX11_hasState, cX11_hasState, 2, some .boolean)
abbrev mX1_standAt : pvM := (yX1_standAt, cX1_standAt, 4, none)
abbrev mX1_begin : pvM := (yX1_begin, cX1_begin, 3, none)
abbrev mX1_settle : pvM := (yX1_settle, cX1_settle, 7, none)
abbrev mX1_note : pvM := (yX1_note, cX1_note, 1, none)
abbrev mX1_pass : pvM := (yX1_pass, cX1_pass, 8, none)
abbrev mX1_air : pvM := (yX1_air, cX1_air, 15, some .long)
abbrev mX1_warmUp : pvM := (yX1_warmUp, cX1_warmUp, 12, some .long)
abbrev mX1_coolDown : pvM := (yX1_coolDown, cX1_coolDown, 9, none)
abbrev mX1_burnDown : pvM := (yX1_burnDown, cX1_burnDown, 13, some .long)
abbrev mX1_lookAt : pvM := (yX1_lookAt, cX1_lookAt, 3, none)
abbrev mX11_has : pvM := (yX11_has, cX11_has, 3, some .boolean)
abbrev mX11_lost : pvM := (yX11_lost, cX11_lost, 3, some .int)
abbrev mX11_lostBy : pvM := (yX11_lostBy, cX11_lostBy, 2, some .int)
abbrev mX11_fed : pvM := (yX11_fed, cX11_fed, 4, some .int)
abbrev mX11_inTime : pvM := (yX11_inTime, cX11_inTime, 6, some .int)
abbrev mX11_cutsInTime : pvM := (yX11_cutsInTime, cX11_cutsInTime, 6, some .boolean)
abbrev mX11_see : pvM := (yX11_see, cX11_see, 4, none)
abbrev mX11_letNow : pvM := (yX11_letNow, cX11_letNow, 1, some .int)
abbrev mX11_letAsKnown : pvM := (yX11_letAsKnown, cX11_letAsKnown, 4, some .int)
abbrev mX11_isLet : pvM := (yX11_isLet, cX11_isLet, 7, some .boolean)
abbrev mX11_isIn : pvM := (yX11_isIn, cX11_isIn, 2, some .boolean)
abbrev mJ6_bitCount_0f7a4 : pvM := (yJ6_bitCount_0f7a4, cJ6_bitCount_0f7a4, 1, some .int)
abbrev mX11_allOrSome : pvM := (yX11_allOrSome, cX11_allOrSome, 2, some .int)
abbrev mX11_read : pvM := (yX11_read, cX11_read, 4, some .int)
abbrev mX4_addReading : pvM := (yX4_addReading, cX4_addReading, 5, none)
abbrev mX11_let : pvM := (yX11_let, cX11_let, 3, some .int)
abbrev mX11_isKnown : pvM := (yX11_isKnown, cX11_isKnown, 1, some .boolean)
abbrev mX11_span : pvM := (yX11_span, cX11_span, 5, some .int)
abbrev mX11_howManyBurn : pvM := (yX11_howManyBurn, cX11_howManyBurn, 6, some .int)
abbrev mX11_parts : pvM := (yX11_parts, cX11_parts, 9, some .int)
abbrev mX11_house : pvM := (yX11_house, cX11_house, 4, some .int)
abbrev mX7_addHouse : pvM := (yX7_addHouse, cX7_addHouse, 5, some .int)
abbrev mX11_gas : pvM := (yX11_gas, cX11_gas, 4, some .int)
abbrev mX7_hasHouse : pvM := (yX7_hasHouse, cX7_hasHouse, 2, some .boolean)
abbrev mX11_gasOf : pvM := (yX11_gasOf, cX11_gasOf, 8, some .int)
abbrev mX11_nearness : pvM := (yX11_nearness, cX11_nearness, 8, some .int)
abbrev mX11_person : pvM := (yX11_person, cX11_person, 4, some .int)
abbrev mX7_addPerson : pvM := (yX7_addPerson, cX7_addPerson, 5, some .int)
abbrev mX11_hears : pvM := (yX11_hears, cX11_hears, 3, some .boolean)
abbrev mX7_hasPerson : pvM := (yX7_hasPerson, cX7_hasPerson, 2, some .boolean)
abbrev mX11_offer : pvM := (yX11_offer, cX11_offer, 4, some .boolean)
abbrev mX11_isWeekToCome : pvM := (yX11_isWeekToCome, cX11_isWeekToCome, 2, some .boolean)
abbrev mX11_pull : pvM := (yX11_pull, cX11_pull, 2, some .boolean)
abbrev mX11_gone : pvM := (yX11_gone, cX11_gone, 2, some .int)
abbrev mX11_weeks : pvM := (yX11_weeks, cX11_weeks, 3, some .int)
abbrev mX7_takeOffers : pvM := (yX7_takeOffers, cX7_takeOffers, 5, none)
abbrev mX7_isThere : pvM := (yX7_isThere, cX7_isThere, 2, some .boolean)
abbrev mX7_takes : pvM := (yX7_takes, cX7_takes, 3, some .boolean)
abbrev mX11_feed : pvM := (yX11_feed, cX11_feed, 6, some .int)
abbrev mX6_hasRoom : pvM := (yX6_hasRoom, cX6_hasRoom, 2, some .boolean)
abbrev mX6_addWord : pvM := (yX6_addWord, cX6_addWord, 3, none)
abbrev mX11_end : pvM := (yX11_end, cX11_end, 2, some .int)
abbrev mX11_act : pvM := (yX11_act, cX11_act, 2, some .int)
abbrev mX6_readInto : pvM := (yX6_readInto, cX6_readInto, 3, some .boolean)
abbrev mX6_split : pvM := (yX6_split, cX6_split, 4, none)
abbrev mX6_endOfToken : pvM := (yX6_endOfToken, cX6_endOfToken, 4, some .int)
abbrev mX6_familyOf : pvM := (yX6_familyOf, cX6_familyOf, 1, some .int)
abbrev mX6_tokenOf : pvM := (yX6_tokenOf, cX6_tokenOf, 3, some .int)
abbrev mX6_wordOf : pvM := (yX6_wordOf, cX6_wordOf, 6, some .int)
abbrev mJ0_length_8abf5 : pvM := (yJ0_length_8abf5, cJ0_length_8abf5, 1, some .int)
abbrev mJ0_coder_7d493 : pvM := (yJ0_coder_7d493, cJ0_coder_7d493, 1, some .byte)
abbrev mJ0_charAt_5068e : pvM := (yJ0_charAt_5068e, cJ0_charAt_5068e, 2, some .char)
abbrev mJ0_isLatin1_aae02 : pvM := (yJ0_isLatin1_aae02, cJ0_isLatin1_aae02, 1, some .boolean)
abbrev mJ1_charAt_3b067 : pvM := (yJ1_charAt_3b067, cJ1_charAt_3b067, 2, some .char)
abbrev mJ0_checkIndex_df160 : pvM := (yJ0_checkIndex_df160, cJ0_checkIndex_df160, 2, none)
abbrev mJ3_checkIndex_8e157 : pvM := (yJ3_checkIndex_8e157, cJ3_checkIndex_8e157, 3, some .int)
abbrev mJ2_charAt_3b067 : pvM := (yJ2_charAt_3b067, cJ2_charAt_3b067, 2, some .char)
abbrev mJ2_checkIndex_2214a : pvM := (yJ2_checkIndex_2214a, cJ2_checkIndex_2214a, 2, none)
abbrev mJ2_length_9d52b : pvM := (yJ2_length_9d52b, cJ2_length_9d52b, 1, some .int)
abbrev mJ2_getChar_3b067 : pvM := (yJ2_getChar_3b067, cJ2_getChar_3b067, 2, some .char)
abbrev mX6_isWord : pvM := (yX6_isWord, cX6_isWord, 5, some .boolean)
abbrev mX6_numberOf : pvM := (yX6_numberOf, cX6_numberOf, 5, some .int)
abbrev mX0_clear : pvM := (yX0_clear, cX0_clear, 1, none)
abbrev mX6_readClause : pvM := (yX6_readClause, cX6_readClause, 1, none)
abbrev mX6_refuse : pvM := (yX6_refuse, cX6_refuse, 2, none)
abbrev mX0_addClause : pvM := (yX0_addClause, cX0_addClause, 2, none)
abbrev mX6_advance : pvM := (yX6_advance, cX6_advance, 1, none)
abbrev mX6_readOwner : pvM := (yX6_readOwner, cX6_readOwner, 2, none)
abbrev mX0_setOwner : pvM := (yX0_setOwner, cX0_setOwner, 2, none)
abbrev mX6_readSum : pvM := (yX6_readSum, cX6_readSum, 6, none)
abbrev mX6_readOne : pvM := (yX6_readOne, cX6_readOne, 4, none)
abbrev mX6_faultOfOne : pvM := (yX6_faultOfOne, cX6_faultOfOne, 5, some .int)
abbrev mX0_add : pvM := (yX0_add, cX0_add, 2, none)
abbrev mX6_readEither : pvM := (yX6_readEither, cX6_readEither, 4, none)
abbrev mX6_readAsked : pvM := (yX6_readAsked, cX6_readAsked, 3, none)
abbrev mX6_isComparison : pvM := (yX6_isComparison, cX6_isComparison, 1, some .boolean)
abbrev mX11_fault : pvM := (yX11_fault, cX11_fault, 2, some .int)
abbrev mX11_force : pvM := (yX11_force, cX11_force, 4, some .int)
abbrev mX5_addForce : pvM := (yX5_addForce, cX5_addForce, 5, some .int)
abbrev mX11_by : pvM := (yX11_by, cX11_by, 4, some .int)
abbrev mX11_shutOf : pvM := (yX11_shutOf, cX11_shutOf, 7, some .int)
abbrev mX11_actFor : pvM := (yX11_actFor, cX11_actFor, 5, some (.object "SeamFire$Act"))
abbrev mX0_first : pvM := (yX0_first, cX0_first, 3, some .int)
abbrev mX11_nameHouse : pvM := (yX11_nameHouse, cX11_nameHouse, 4, none)
abbrev mX7_thereIn : pvM := (yX7_thereIn, cX7_thereIn, 4, some .int)
abbrev mX0_value : pvM := (yX0_value, cX0_value, 7, some .int)
abbrev mX0_joined : pvM := (yX0_joined, cX0_joined, 3, some .int)
abbrev mX0_limited : pvM := (yX0_limited, cX0_limited, 2, some .int)
abbrev mJ9_min_f86c9 : pvM := (yJ9_min_f86c9, cJ9_min_f86c9, 4, some .long)
abbrev mJ9_max_f86c9 : pvM := (yJ9_max_f86c9, cJ9_max_f86c9, 4, some .long)
abbrev mX0_isSo : pvM := (yX0_isSo, cX0_isSo, 3, some .boolean)
abbrev mX11_worthOf : pvM := (yX11_worthOf, cX11_worthOf, 5, some .int)
abbrev mX11_whose : pvM := (yX11_whose, cX11_whose, 4, some .int)
abbrev mX7_howManyWent : pvM := (yX7_howManyWent, cX7_howManyWent, 3, some .int)
abbrev mX11_vote : pvM := (yX11_vote, cX11_vote, 5, some .int)
abbrev mX11_countVotes : pvM := (yX11_countVotes, cX11_countVotes, 7, some .int)
abbrev mX11_votesYes : pvM := (yX11_votesYes, cX11_votesYes, 7, some .boolean)
abbrev mX11_leastGift : pvM := (yX11_leastGift, cX11_leastGift, 8, some .int)
abbrev mX11_place : pvM := (yX11_place, cX11_place, 3, some .int)
abbrev mX8_add : pvM := (yX8_add, cX8_add, 4, some .int)
abbrev mX11_best : pvM := (yX11_best, cX11_best, 6, some .int)
abbrev mX11_findBest : pvM := (yX11_findBest, cX11_findBest, 8, none)
abbrev mX8_costOf : pvM := (yX8_costOf, cX8_costOf, 4, some .int)
abbrev mX8_cellsOf : pvM := (yX8_cellsOf, cX8_cellsOf, 5, some .long)
abbrev mX11_greatestLost : pvM := (yX11_greatestLost, cX11_greatestLost, 8, some .int)
abbrev mX1_standAs : pvM := (yX1_standAs, cX1_standAs, 2, none)
abbrev mX11_image : pvM := (yX11_image, cX11_image, 1, some .int)
abbrev mX10_take : pvM := (yX10_take, cX10_take, 2, none)
abbrev mX3_take : pvM := (yX3_take, cX3_take, 2, none)
abbrev mX9_take : pvM := (yX9_take, cX9_take, 2, none)
abbrev mX4_take : pvM := (yX4_take, cX4_take, 2, none)
abbrev mX7_take : pvM := (yX7_take, cX7_take, 2, none)
abbrev mX5_take : pvM := (yX5_take, cX5_take, 2, none)
abbrev mX8_take : pvM := (yX8_take, cX8_take, 2, none)
abbrev mX11_back : pvM := (yX11_back, cX11_back, 2, some .int)
abbrev mX11_about : pvM := (yX11_about, cX11_about, 2, some .int)
abbrev mL_cell : pvM := (yL_cell, cL_cell, 2, some .int)
abbrev mX12_init : pvM := (yX12_init, cX12_init, 3, none)
abbrev mX12_copy : pvM := (yX12_copy, cX12_copy, 3, none)
abbrev mX12_cell : pvM := (yX12_cell, cX12_cell, 5, some .boolean)
abbrev mX12_isCell : pvM := (yX12_isCell, cX12_isCell, 2, some .boolean)
abbrev mX12_isIn : pvM := (yX12_isIn, cX12_isIn, 3, some .boolean)
abbrev mX12_rules : pvM := (yX12_rules, cX12_rules, 4, some .boolean)
abbrev mX12_hole : pvM := (yX12_hole, cX12_hole, 3, some .int)
abbrev mX12_plug : pvM := (yX12_plug, cX12_plug, 2, some .boolean)
abbrev mX12_isHole : pvM := (yX12_isHole, cX12_isHole, 2, some .boolean)
abbrev mX12_pour : pvM := (yX12_pour, cX12_pour, 10, some .int)
abbrev mX12_fillOf : pvM := (yX12_fillOf, cX12_fillOf, 4, some .int)
abbrev mX12_beside : pvM := (yX12_beside, cX12_beside, 5, some .int)
abbrev mX12_fill : pvM := (yX12_fill, cX12_fill, 2, some .int)
abbrev mX12_trench : pvM := (yX12_trench, cX12_trench, 7, some .int)
abbrev mX12_state : pvM := (yX12_state, cX12_state, 3, some .int)
abbrev mX12_isWeek : pvM := (yX12_isWeek, cX12_isWeek, 1, some .boolean)
abbrev mX12_burns : pvM := (yX12_burns, cX12_burns, 5, some .int)
abbrev mX12_isState : pvM := (yX12_isState, cX12_isState, 2, some .boolean)
abbrev mX12_run : pvM := (yX12_run, cX12_run, 7, none)
abbrev mX12_first : pvM := (yX12_first, cX12_first, 2, none)
abbrev mX12_begin : pvM := (yX12_begin, cX12_begin, 9, none)
abbrev mX12_blow : pvM := (yX12_blow, cX12_blow, 8, none)
abbrev mX12_isOpen : pvM := (yX12_isOpen, cX12_isOpen, 2, some .boolean)
abbrev mX12_burnOn : pvM := (yX12_burnOn, cX12_burnOn, 4, none)
abbrev mX12_lost : pvM := (yX12_lost, cX12_lost, 3, some .int)
abbrev mX12_lostAt : pvM := (yX12_lostAt, cX12_lostAt, 5, some .int)
abbrev mX12_fed : pvM := (yX12_fed, cX12_fed, 5, some .int)
abbrev mX12_read : pvM := (yX12_read, cX12_read, 5, some .int)
abbrev mX12_let : pvM := (yX12_let, cX12_let, 3, some .int)
abbrev mX12_runAll : pvM := (yX12_runAll, cX12_runAll, 2, none)
abbrev mX12_manyLet : pvM := (yX12_manyLet, cX12_manyLet, 4, some .int)
abbrev mX12_isLet : pvM := (yX12_isLet, cX12_isLet, 6, some .boolean)
abbrev mX12_span : pvM := (yX12_span, cX12_span, 6, some .int)
abbrev mX12_manyBurn : pvM := (yX12_manyBurn, cX12_manyBurn, 6, some .int)
abbrev mX12_parts : pvM := (yX12_parts, cX12_parts, 8, some .int)
abbrev mX12_inTime : pvM := (yX12_inTime, cX12_inTime, 6, some .int)
abbrev mX12_house : pvM := (yX12_house, cX12_house, 5, some .int)
abbrev mX12_gas : pvM := (yX12_gas, cX12_gas, 4, some .int)
abbrev mX12_isHouse : pvM := (yX12_isHouse, cX12_isHouse, 2, some .boolean)
abbrev mX12_gasOf : pvM := (yX12_gasOf, cX12_gasOf, 10, some .int)
abbrev mX12_abs : pvM := (yX12_abs, cX12_abs, 1, some .int)
abbrev mX12_person : pvM := (yX12_person, cX12_person, 5, some .int)
abbrev mX12_hears : pvM := (yX12_hears, cX12_hears, 3, some .boolean)
abbrev mX12_isPerson : pvM := (yX12_isPerson, cX12_isPerson, 2, some .boolean)
abbrev mX12_offer : pvM := (yX12_offer, cX12_offer, 4, some .boolean)
abbrev mX12_pull : pvM := (yX12_pull, cX12_pull, 2, some .boolean)
abbrev mX12_gone : pvM := (yX12_gone, cX12_gone, 2, some .int)
abbrev mX12_weeks : pvM := (yX12_weeks, cX12_weeks, 3, some .int)
abbrev mX12_leave : pvM := (yX12_leave, cX12_leave, 5, none)
abbrev mX12_kinGone : pvM := (yX12_kinGone, cX12_kinGone, 4, some .int)
abbrev mX12_feed : pvM := (yX12_feed, cX12_feed, 6, some .int)
abbrev mX12_four : pvM := (yX12_four, cX12_four, 3, none)
abbrev mX12_end : pvM := (yX12_end, cX12_end, 2, some .int)
abbrev mX12_act : pvM := (yX12_act, cX12_act, 1, some .int)
abbrev mX12_readText : pvM := (yX12_readText, cX12_readText, 2, some .int)
abbrev mX12_nextToken : pvM := (yX12_nextToken, cX12_nextToken, 3, none)
abbrev mX12_see : pvM := (yX12_see, cX12_see, 2, some .int)
abbrev mX12_isDigit : pvM := (yX12_isDigit, cX12_isDigit, 1, some .boolean)
abbrev mX12_isLetter : pvM := (yX12_isLetter, cX12_isLetter, 1, some .boolean)
abbrev mX12_clause : pvM := (yX12_clause, cX12_clause, 3, some .int)
abbrev mX12_sortOf : pvM := (yX12_sortOf, cX12_sortOf, 1, some .int)
abbrev mX12_w4 : pvM := (yX12_w4, cX12_w4, 4, some .long)
abbrev mX12_w3 : pvM := (yX12_w3, cX12_w3, 3, some .long)
abbrev mX12_isWord : pvM := (yX12_isWord, cX12_isWord, 3, some .boolean)
abbrev mX12_w5 : pvM := (yX12_w5, cX12_w5, 5, some .long)
abbrev mX12_summed : pvM := (yX12_summed, cX12_summed, 2, some .int)
abbrev mX12_goesOn : pvM := (yX12_goesOn, cX12_goesOn, 1, some .boolean)
abbrev mX12_hasParen : pvM := (yX12_hasParen, cX12_hasParen, 2, some .boolean)
abbrev mX12_behindOne : pvM := (yX12_behindOne, cX12_behindOne, 2, some .int)
abbrev mX12_settle : pvM := (yX12_settle, cX12_settle, 2, none)
abbrev mX12_emit : pvM := (yX12_emit, cX12_emit, 3, none)
abbrev mX12_push : pvM := (yX12_push, cX12_push, 2, none)
abbrev mX12_whole : pvM := (yX12_whole, cX12_whole, 1, none)
abbrev mX12_beginOne : pvM := (yX12_beginOne, cX12_beginOne, 2, some .int)
abbrev mX12_nameOf : pvM := (yX12_nameOf, cX12_nameOf, 1, some .int)
abbrev mX12_w6 : pvM := (yX12_w6, cX12_w6, 6, some .long)
abbrev mX12_isBarred : pvM := (yX12_isBarred, cX12_isBarred, 2, some .boolean)
abbrev mX12_either : pvM := (yX12_either, cX12_either, 6, some .int)
abbrev mX12_ask : pvM := (yX12_ask, cX12_ask, 5, some .int)
abbrev mX12_compareOf : pvM := (yX12_compareOf, cX12_compareOf, 1, some .int)
abbrev mX12_fault : pvM := (yX12_fault, cX12_fault, 2, some .int)
abbrev mX12_force : pvM := (yX12_force, cX12_force, 5, some .int)
abbrev mX12_by : pvM := (yX12_by, cX12_by, 4, some .int)
abbrev mX12_shutOf : pvM := (yX12_shutOf, cX12_shutOf, 4, some .int)
abbrev mX12_clauseFor : pvM := (yX12_clauseFor, cX12_clauseFor, 4, some .int)
abbrev mX12_actFor : pvM := (yX12_actFor, cX12_actFor, 5, some .int)
abbrev mX12_clauseOf : pvM := (yX12_clauseOf, cX12_clauseOf, 5, some .int)
abbrev mX12_isShut : pvM := (yX12_isShut, cX12_isShut, 4, some .boolean)
abbrev mX12_name : pvM := (yX12_name, cX12_name, 3, none)
abbrev mX12_peopleOf : pvM := (yX12_peopleOf, cX12_peopleOf, 4, some .int)
abbrev mX12_work : pvM := (yX12_work, cX12_work, 8, none)
abbrev mX12_two : pvM := (yX12_two, cX12_two, 5, some .long)
abbrev mX12_clip : pvM := (yX12_clip, cX12_clip, 2, some .long)
abbrev mX12_isAsked : pvM := (yX12_isAsked, cX12_isAsked, 5, some .boolean)
abbrev mX12_worthOf : pvM := (yX12_worthOf, cX12_worthOf, 5, some .int)
abbrev mX12_whose : pvM := (yX12_whose, cX12_whose, 5, some .int)
abbrev mX12_vote : pvM := (yX12_vote, cX12_vote, 3, some .int)
abbrev mX12_count : pvM := (yX12_count, cX12_count, 5, none)
abbrev mX12_gift : pvM := (yX12_gift, cX12_gift, 5, some .int)
abbrev mX12_place : pvM := (yX12_place, cX12_place, 3, some .int)
abbrev mX12_best : pvM := (yX12_best, cX12_best, 12, some .int)
abbrev mX12_image : pvM := (yX12_image, cX12_image, 1, some .int)
abbrev mX12_back : pvM := (yX12_back, cX12_back, 1, some .int)
abbrev mX12_about : pvM := (yX12_about, cX12_about, 2, some .int)
theorem okX11_init : pvOk mX11_init 2 := ⟨pv_in (List.mem_of_getElem? (i := 126) (by decide +kernel)) rfl, pv_in (List.mem_of_getElem? (i := 101) (by decide +kernel)) rfl, by decide, by decide, by decide +kernel⟩
theorem okJ9_min_7cf53 : pvOk mJ9_min_7cf53 2 := ⟨pv_in (List.mem_of_getElem? (i := 134) (by decide +kernel)) rfl, pv_in (List.mem_of_getElem? (i := 103) (by decide +kernel)) rfl, by decide, by decide, by decide +kernel⟩
theorem okJ9_max_7cf53 : pvOk mJ9_max_7cf53 2 := ⟨pv_in (List.mem_of_getElem? (i := 137) (by decide +kernel)) rfl, pv_in (List.mem_of_getElem? (i := 103) (by decide +kernel)) rfl, by decide, by decide, by decide +kernel⟩
theorem okX2_init : pvOk mX2_init 2 := ⟨pv_in (List.mem_of_getElem? (i := 140) (by decide +kernel)) rfl, pv_in (List.mem_of_getElem? (i := 102) (by decide +kernel)) rfl, by decide, by decide, by decide +kernel⟩
theorem okX10_init : pvOk mX10_init 1 := ⟨pv_in (List.mem_of_getElem? (i := 170) (by decide +kernel)) rfl, pv_in (List.mem_of_getElem? (i := 104) (by decide +kernel)) rfl, by decide, by decide, by decide +kernel⟩
theorem okX3_init : pvOk mX3_init 1 := ⟨pv_in (List.mem_of_getElem? (i := 176) (by decide +kernel)) rfl, pv_in (List.mem_of_getElem? (i := 105) (by decide +kernel)) rfl, by decide, by decide, by decide +kernel⟩
theorem okX9_init : pvOk mX9_init 0 := ⟨pv_in (List.mem_of_getElem? (i := 231) (by decide +kernel)) rfl, pv_in (List.mem_of_getElem? (i := 106) (by decide +kernel)) rfl, by decide, by decide, by decide +kernel⟩
theorem okX4_init : pvOk mX4_init 0 := ⟨pv_in (List.mem_of_getElem? (i := 280) (by decide +kernel)) rfl, pv_in (List.mem_of_getElem? (i := 107) (by decide +kernel)) rfl, by decide, by decide, by decide +kernel⟩
theorem okX7_init : pvOk mX7_init 0 := ⟨pv_in (List.mem_of_getElem? (i := 319) (by decide +kernel)) rfl, pv_in (List.mem_of_getElem? (i := 108) (by decide +kernel)) rfl, by decide, by decide, by decide +kernel⟩
theorem okX5_init : pvOk mX5_init 0 := ⟨pv_in (List.mem_of_getElem? (i := 381) (by decide +kernel)) rfl, pv_in (List.mem_of_getElem? (i := 109) (by decide +kernel)) rfl, by decide, by decide, by decide +kernel⟩
theorem okX8_init : pvOk mX8_init 0 := ⟨pv_in (List.mem_of_getElem? (i := 408) (by decide +kernel)) rfl, pv_in (List.mem_of_getElem? (i := 110) (by decide +kernel)) rfl, by decide, by decide, by decide +kernel⟩
theorem okX1_init : pvOk mX1_init 0 := ⟨pv_in (List.mem_of_getElem? (i := 478) (by decide +kernel)) rfl, pv_in (List.mem_of_getElem? (i := 111) (by decide +kernel)) rfl, by decide, by decide, by decide +kernel⟩
theorem okX6_init : pvOk mX6_init 0 := ⟨pv_in (List.mem_of_getElem? (i := 537) (by decide +kernel)) rfl, pv_in (List.mem_of_getElem? (i := 112) (by decide +kernel)) rfl, by decide, by decide, by decide +kernel⟩
theorem okX0_init : pvOk mX0_init 0 := ⟨pv_in (List.mem_of_getElem? (i := 584) (by decide +kernel)) rfl, pv_in (List.mem_of_getElem? (i := 113) (by decide +kernel)) rfl, by decide, by decide, by decide +kernel⟩
theorem okX11_cell : pvOk mX11_cell 3 := ⟨pv_in (List.mem_of_getElem? (i := 644) (by decide +kernel)) rfl, pv_in (List.mem_of_getElem? (i := 101) (by decide +kernel)) rfl, by decide, by decide, by decide +kernel⟩
theorem okX2_has : pvOk mX2_has 1 := ⟨pv_in (List.mem_of_getElem? (i := 648) (by decide +kernel)) rfl, pv_in (List.mem_of_getElem? (i := 102) (by decide +kernel)) rfl, by decide, by decide, by decide +kernel⟩
theorem okX11_within : pvOk mX11_within 3 := ⟨pv_in (List.mem_of_getElem? (i := 651) (by decide +kernel)) rfl, pv_in (List.mem_of_getElem? (i := 101) (by decide +kernel)) rfl, by decide, by decide, by decide +kernel⟩
theorem okX3_tell : pvOk mX3_tell 3 := ⟨pv_in (List.mem_of_getElem? (i := 655) (by decide +kernel)) rfl, pv_in (List.mem_of_getElem? (i := 105) (by decide +kernel)) rfl, by decide, by decide, by decide +kernel⟩
theorem okX11_bit : pvOk mX11_bit 1 := ⟨pv_in (List.mem_of_getElem? (i := 658) (by decide +kernel)) rfl, pv_in (List.mem_of_getElem? (i := 101) (by decide +kernel)) rfl, by decide, by decide, by decide +kernel⟩
theorem okX11_changedFrom : pvOk mX11_changedFrom 1 := ⟨pv_in (List.mem_of_getElem? (i := 663) (by decide +kernel)) rfl, pv_in (List.mem_of_getElem? (i := 101) (by decide +kernel)) rfl, by decide, by decide, by decide +kernel⟩
theorem okX1_forgetFrom : pvOk mX1_forgetFrom 1 := ⟨pv_in (List.mem_of_getElem? (i := 667) (by decide +kernel)) rfl, pv_in (List.mem_of_getElem? (i := 111) (by decide +kernel)) rfl, by decide, by decide, by decide +kernel⟩
theorem okX8_forget : pvOk mX8_forget 0 := ⟨pv_in (List.mem_of_getElem? (i := 672) (by decide +kernel)) rfl, pv_in (List.mem_of_getElem? (i := 110) (by decide +kernel)) rfl, by decide, by decide, by decide +kernel⟩
theorem okX11_rules : pvOk mX11_rules 3 := ⟨pv_in (List.mem_of_getElem? (i := 676) (by decide +kernel)) rfl, pv_in (List.mem_of_getElem? (i := 101) (by decide +kernel)) rfl, by decide, by decide, by decide +kernel⟩
theorem okX11_hole : pvOk mX11_hole 1 := ⟨pv_in (List.mem_of_getElem? (i := 680) (by decide +kernel)) rfl, pv_in (List.mem_of_getElem? (i := 101) (by decide +kernel)) rfl, by decide, by decide, by decide +kernel⟩
theorem okX9_bore : pvOk mX9_bore 2 := ⟨pv_in (List.mem_of_getElem? (i := 684) (by decide +kernel)) rfl, pv_in (List.mem_of_getElem? (i := 106) (by decide +kernel)) rfl, by decide, by decide, by decide +kernel⟩
theorem okX9_noteHoles : pvOk mX9_noteHoles 1 := ⟨pv_in (List.mem_of_getElem? (i := 688) (by decide +kernel)) rfl, pv_in (List.mem_of_getElem? (i := 106) (by decide +kernel)) rfl, by decide, by decide, by decide +kernel⟩
theorem okX9_openHoles : pvOk mX9_openHoles 2 := ⟨pv_in (List.mem_of_getElem? (i := 692) (by decide +kernel)) rfl, pv_in (List.mem_of_getElem? (i := 106) (by decide +kernel)) rfl, by decide, by decide, by decide +kernel⟩
theorem okX11_plug : pvOk mX11_plug 1 := ⟨pv_in (List.mem_of_getElem? (i := 697) (by decide +kernel)) rfl, pv_in (List.mem_of_getElem? (i := 101) (by decide +kernel)) rfl, by decide, by decide, by decide +kernel⟩
theorem okX9_hasHole : pvOk mX9_hasHole 1 := ⟨pv_in (List.mem_of_getElem? (i := 701) (by decide +kernel)) rfl, pv_in (List.mem_of_getElem? (i := 106) (by decide +kernel)) rfl, by decide, by decide, by decide +kernel⟩
theorem okX9_close : pvOk mX9_close 2 := ⟨pv_in (List.mem_of_getElem? (i := 705) (by decide +kernel)) rfl, pv_in (List.mem_of_getElem? (i := 106) (by decide +kernel)) rfl, by decide, by decide, by decide +kernel⟩
theorem okX11_pour : pvOk mX11_pour 2 := ⟨pv_in (List.mem_of_getElem? (i := 709) (by decide +kernel)) rfl, pv_in (List.mem_of_getElem? (i := 101) (by decide +kernel)) rfl, by decide, by decide, by decide +kernel⟩
theorem okX11_isRoom : pvOk mX11_isRoom 1 := ⟨pv_in (List.mem_of_getElem? (i := 713) (by decide +kernel)) rfl, pv_in (List.mem_of_getElem? (i := 101) (by decide +kernel)) rfl, by decide, by decide, by decide +kernel⟩
theorem okX3_runSand : pvOk mX3_runSand 3 := ⟨pv_in (List.mem_of_getElem? (i := 717) (by decide +kernel)) rfl, pv_in (List.mem_of_getElem? (i := 105) (by decide +kernel)) rfl, by decide, by decide, by decide +kernel⟩
theorem okX3_fillLayer : pvOk mX3_fillLayer 2 := ⟨pv_in (List.mem_of_getElem? (i := 721) (by decide +kernel)) rfl, pv_in (List.mem_of_getElem? (i := 105) (by decide +kernel)) rfl, by decide, by decide, by decide +kernel⟩
theorem okX11_lowest : pvOk mX11_lowest 1 := ⟨pv_in (List.mem_of_getElem? (i := 724) (by decide +kernel)) rfl, pv_in (List.mem_of_getElem? (i := 101) (by decide +kernel)) rfl, by decide, by decide, by decide +kernel⟩
theorem okJ13_bitCount_95d88 : pvOk mJ13_bitCount_95d88 1 := ⟨pv_in (List.mem_of_getElem? (i := 727) (by decide +kernel)) rfl, pv_in (List.mem_of_getElem? (i := 115) (by decide +kernel)) rfl, by decide, by decide, by decide +kernel⟩
theorem okX2_spread : pvOk mX2_spread 1 := ⟨pv_in (List.mem_of_getElem? (i := 735) (by decide +kernel)) rfl, pv_in (List.mem_of_getElem? (i := 102) (by decide +kernel)) rfl, by decide, by decide, by decide +kernel⟩
theorem okX3_noteFull : pvOk mX3_noteFull 1 := ⟨pv_in (List.mem_of_getElem? (i := 739) (by decide +kernel)) rfl, pv_in (List.mem_of_getElem? (i := 105) (by decide +kernel)) rfl, by decide, by decide, by decide +kernel⟩
theorem okX11_fill : pvOk mX11_fill 1 := ⟨pv_in (List.mem_of_getElem? (i := 743) (by decide +kernel)) rfl, pv_in (List.mem_of_getElem? (i := 101) (by decide +kernel)) rfl, by decide, by decide, by decide +kernel⟩
theorem okX11_trench : pvOk mX11_trench 4 := ⟨pv_in (List.mem_of_getElem? (i := 747) (by decide +kernel)) rfl, pv_in (List.mem_of_getElem? (i := 101) (by decide +kernel)) rfl, by decide, by decide, by decide +kernel⟩
theorem okX2_holds : pvOk mX2_holds 3 := ⟨pv_in (List.mem_of_getElem? (i := 751) (by decide +kernel)) rfl, pv_in (List.mem_of_getElem? (i := 102) (by decide +kernel)) rfl, by decide, by decide, by decide +kernel⟩
theorem okX2_step : pvOk mX2_step 1 := ⟨pv_in (List.mem_of_getElem? (i := 756) (by decide +kernel)) rfl, pv_in (List.mem_of_getElem? (i := 102) (by decide +kernel)) rfl, by decide, by decide, by decide +kernel⟩
theorem okX9_dig : pvOk mX9_dig 5 := ⟨pv_in (List.mem_of_getElem? (i := 760) (by decide +kernel)) rfl, pv_in (List.mem_of_getElem? (i := 106) (by decide +kernel)) rfl, by decide, by decide, by decide +kernel⟩
theorem okX9_weekOfCut : pvOk mX9_weekOfCut 2 := ⟨pv_in (List.mem_of_getElem? (i := 764) (by decide +kernel)) rfl, pv_in (List.mem_of_getElem? (i := 106) (by decide +kernel)) rfl, by decide, by decide, by decide +kernel⟩
theorem okX9_cellOfCut : pvOk mX9_cellOfCut 2 := ⟨pv_in (List.mem_of_getElem? (i := 769) (by decide +kernel)) rfl, pv_in (List.mem_of_getElem? (i := 106) (by decide +kernel)) rfl, by decide, by decide, by decide +kernel⟩
theorem okX11_state : pvOk mX11_state 2 := ⟨pv_in (List.mem_of_getElem? (i := 773) (by decide +kernel)) rfl, pv_in (List.mem_of_getElem? (i := 101) (by decide +kernel)) rfl, by decide, by decide, by decide +kernel⟩
theorem okX11_isWeek : pvOk mX11_isWeek 1 := ⟨pv_in (List.mem_of_getElem? (i := 776) (by decide +kernel)) rfl, pv_in (List.mem_of_getElem? (i := 101) (by decide +kernel)) rfl, by decide, by decide, by decide +kernel⟩
theorem okX4_addState : pvOk mX4_addState 2 := ⟨pv_in (List.mem_of_getElem? (i := 780) (by decide +kernel)) rfl, pv_in (List.mem_of_getElem? (i := 107) (by decide +kernel)) rfl, by decide, by decide, by decide +kernel⟩
theorem okX1_tell : pvOk mX1_tell 2 := ⟨pv_in (List.mem_of_getElem? (i := 784) (by decide +kernel)) rfl, pv_in (List.mem_of_getElem? (i := 111) (by decide +kernel)) rfl, by decide, by decide, by decide +kernel⟩
theorem okX11_burns : pvOk mX11_burns 4 := ⟨pv_in (List.mem_of_getElem? (i := 789) (by decide +kernel)) rfl, pv_in (List.mem_of_getElem? (i := 101) (by decide +kernel)) rfl, by decide, by decide, by decide +kernel⟩
theorem okX11_hasState : pvOk mX11_hasState 1 := ⟨pv_in (List.mem_of_getElem? (i := 793) (by decide +kernel)) rfl, pv_in (List.mem_of_getElem? (i := 101) (by decide +kernel)) rfl, by decide, by decide, by decide +kernel⟩
theorem okX1_standAt : pvOk mX1_standAt 2 := ⟨pv_in (List.mem_of_getElem? (i := 797) (by decide +kernel)) rfl, pv_in (List.mem_of_getElem? (i := 111) (by decide +kernel)) rfl, by decide, by decide, by decide +kernel⟩
theorem okX1_begin : pvOk mX1_begin 1 := ⟨pv_in (List.mem_of_getElem? (i := 801) (by decide +kernel)) rfl, pv_in (List.mem_of_getElem? (i := 111) (by decide +kernel)) rfl, by decide, by decide, by decide +kernel⟩
theorem okX1_settle : pvOk mX1_settle 1 := ⟨pv_in (List.mem_of_getElem? (i := 808) (by decide +kernel)) rfl, pv_in (List.mem_of_getElem? (i := 111) (by decide +kernel)) rfl, by decide, by decide, by decide +kernel⟩
theorem okX1_note : pvOk mX1_note 0 := ⟨pv_in (List.mem_of_getElem? (i := 815) (by decide +kernel)) rfl, pv_in (List.mem_of_getElem? (i := 111) (by decide +kernel)) rfl, by decide, by decide, by decide +kernel⟩
theorem okX1_pass : pvOk mX1_pass 1 := ⟨pv_in (List.mem_of_getElem? (i := 820) (by decide +kernel)) rfl, pv_in (List.mem_of_getElem? (i := 111) (by decide +kernel)) rfl, by decide, by decide, by decide +kernel⟩
theorem okX1_air : pvOk mX1_air 2 := ⟨pv_in (List.mem_of_getElem? (i := 824) (by decide +kernel)) rfl, pv_in (List.mem_of_getElem? (i := 111) (by decide +kernel)) rfl, by decide, by decide, by decide +kernel⟩
theorem okX1_warmUp : pvOk mX1_warmUp 2 := ⟨pv_in (List.mem_of_getElem? (i := 830) (by decide +kernel)) rfl, pv_in (List.mem_of_getElem? (i := 111) (by decide +kernel)) rfl, by decide, by decide, by decide +kernel⟩
theorem okX1_coolDown : pvOk mX1_coolDown 1 := ⟨pv_in (List.mem_of_getElem? (i := 835) (by decide +kernel)) rfl, pv_in (List.mem_of_getElem? (i := 111) (by decide +kernel)) rfl, by decide, by decide, by decide +kernel⟩
theorem okX1_burnDown : pvOk mX1_burnDown 2 := ⟨pv_in (List.mem_of_getElem? (i := 839) (by decide +kernel)) rfl, pv_in (List.mem_of_getElem? (i := 111) (by decide +kernel)) rfl, by decide, by decide, by decide +kernel⟩
theorem okX1_lookAt : pvOk mX1_lookAt 2 := ⟨pv_in (List.mem_of_getElem? (i := 843) (by decide +kernel)) rfl, pv_in (List.mem_of_getElem? (i := 111) (by decide +kernel)) rfl, by decide, by decide, by decide +kernel⟩
theorem okX11_has : pvOk mX11_has 2 := ⟨pv_in (List.mem_of_getElem? (i := 848) (by decide +kernel)) rfl, pv_in (List.mem_of_getElem? (i := 101) (by decide +kernel)) rfl, by decide, by decide, by decide +kernel⟩
theorem okX11_lost : pvOk mX11_lost 2 := ⟨pv_in (List.mem_of_getElem? (i := 852) (by decide +kernel)) rfl, pv_in (List.mem_of_getElem? (i := 101) (by decide +kernel)) rfl, by decide, by decide, by decide +kernel⟩
theorem okX11_lostBy : pvOk mX11_lostBy 2 := ⟨pv_in (List.mem_of_getElem? (i := 855) (by decide +kernel)) rfl, pv_in (List.mem_of_getElem? (i := 101) (by decide +kernel)) rfl, by decide, by decide, by decide +kernel⟩
theorem okX11_fed : pvOk mX11_fed 3 := ⟨pv_in (List.mem_of_getElem? (i := 859) (by decide +kernel)) rfl, pv_in (List.mem_of_getElem? (i := 101) (by decide +kernel)) rfl, by decide, by decide, by decide +kernel⟩
theorem okX11_inTime : pvOk mX11_inTime 2 := ⟨pv_in (List.mem_of_getElem? (i := 863) (by decide +kernel)) rfl, pv_in (List.mem_of_getElem? (i := 101) (by decide +kernel)) rfl, by decide, by decide, by decide +kernel⟩
theorem okX11_cutsInTime : pvOk mX11_cutsInTime 2 := ⟨pv_in (List.mem_of_getElem? (i := 867) (by decide +kernel)) rfl, pv_in (List.mem_of_getElem? (i := 101) (by decide +kernel)) rfl, by decide, by decide, by decide +kernel⟩
theorem okX11_see : pvOk mX11_see 1 := ⟨pv_in (List.mem_of_getElem? (i := 873) (by decide +kernel)) rfl, pv_in (List.mem_of_getElem? (i := 101) (by decide +kernel)) rfl, by decide, by decide, by decide +kernel⟩
theorem okX11_letNow : pvOk mX11_letNow 0 := ⟨pv_in (List.mem_of_getElem? (i := 877) (by decide +kernel)) rfl, pv_in (List.mem_of_getElem? (i := 101) (by decide +kernel)) rfl, by decide, by decide, by decide +kernel⟩
theorem okX11_letAsKnown : pvOk mX11_letAsKnown 1 := ⟨pv_in (List.mem_of_getElem? (i := 881) (by decide +kernel)) rfl, pv_in (List.mem_of_getElem? (i := 101) (by decide +kernel)) rfl, by decide, by decide, by decide +kernel⟩
theorem okX11_isLet : pvOk mX11_isLet 2 := ⟨pv_in (List.mem_of_getElem? (i := 885) (by decide +kernel)) rfl, pv_in (List.mem_of_getElem? (i := 101) (by decide +kernel)) rfl, by decide, by decide, by decide +kernel⟩
theorem okX11_isIn : pvOk mX11_isIn 2 := ⟨pv_in (List.mem_of_getElem? (i := 888) (by decide +kernel)) rfl, pv_in (List.mem_of_getElem? (i := 101) (by decide +kernel)) rfl, by decide, by decide, by decide +kernel⟩
theorem okJ6_bitCount_0f7a4 : pvOk mJ6_bitCount_0f7a4 1 := ⟨pv_in (List.mem_of_getElem? (i := 891) (by decide +kernel)) rfl, pv_in (List.mem_of_getElem? (i := 117) (by decide +kernel)) rfl, by decide, by decide, by decide +kernel⟩
theorem okX11_allOrSome : pvOk mX11_allOrSome 2 := ⟨pv_in (List.mem_of_getElem? (i := 897) (by decide +kernel)) rfl, pv_in (List.mem_of_getElem? (i := 101) (by decide +kernel)) rfl, by decide, by decide, by decide +kernel⟩
theorem okX11_read : pvOk mX11_read 3 := ⟨pv_in (List.mem_of_getElem? (i := 901) (by decide +kernel)) rfl, pv_in (List.mem_of_getElem? (i := 101) (by decide +kernel)) rfl, by decide, by decide, by decide +kernel⟩
theorem okX4_addReading : pvOk mX4_addReading 4 := ⟨pv_in (List.mem_of_getElem? (i := 905) (by decide +kernel)) rfl, pv_in (List.mem_of_getElem? (i := 107) (by decide +kernel)) rfl, by decide, by decide, by decide +kernel⟩
theorem okX11_let : pvOk mX11_let 2 := ⟨pv_in (List.mem_of_getElem? (i := 909) (by decide +kernel)) rfl, pv_in (List.mem_of_getElem? (i := 101) (by decide +kernel)) rfl, by decide, by decide, by decide +kernel⟩
theorem okX11_isKnown : pvOk mX11_isKnown 1 := ⟨pv_in (List.mem_of_getElem? (i := 912) (by decide +kernel)) rfl, pv_in (List.mem_of_getElem? (i := 101) (by decide +kernel)) rfl, by decide, by decide, by decide +kernel⟩
theorem okX11_span : pvOk mX11_span 3 := ⟨pv_in (List.mem_of_getElem? (i := 916) (by decide +kernel)) rfl, pv_in (List.mem_of_getElem? (i := 101) (by decide +kernel)) rfl, by decide, by decide, by decide +kernel⟩
theorem okX11_howManyBurn : pvOk mX11_howManyBurn 3 := ⟨pv_in (List.mem_of_getElem? (i := 920) (by decide +kernel)) rfl, pv_in (List.mem_of_getElem? (i := 101) (by decide +kernel)) rfl, by decide, by decide, by decide +kernel⟩
theorem okX11_parts : pvOk mX11_parts 1 := ⟨pv_in (List.mem_of_getElem? (i := 924) (by decide +kernel)) rfl, pv_in (List.mem_of_getElem? (i := 101) (by decide +kernel)) rfl, by decide, by decide, by decide +kernel⟩
theorem okX11_house : pvOk mX11_house 3 := ⟨pv_in (List.mem_of_getElem? (i := 928) (by decide +kernel)) rfl, pv_in (List.mem_of_getElem? (i := 101) (by decide +kernel)) rfl, by decide, by decide, by decide +kernel⟩
theorem okX7_addHouse : pvOk mX7_addHouse 3 := ⟨pv_in (List.mem_of_getElem? (i := 932) (by decide +kernel)) rfl, pv_in (List.mem_of_getElem? (i := 108) (by decide +kernel)) rfl, by decide, by decide, by decide +kernel⟩
theorem okX11_gas : pvOk mX11_gas 3 := ⟨pv_in (List.mem_of_getElem? (i := 936) (by decide +kernel)) rfl, pv_in (List.mem_of_getElem? (i := 101) (by decide +kernel)) rfl, by decide, by decide, by decide +kernel⟩
theorem okX7_hasHouse : pvOk mX7_hasHouse 1 := ⟨pv_in (List.mem_of_getElem? (i := 940) (by decide +kernel)) rfl, pv_in (List.mem_of_getElem? (i := 108) (by decide +kernel)) rfl, by decide, by decide, by decide +kernel⟩
theorem okX11_gasOf : pvOk mX11_gasOf 4 := ⟨pv_in (List.mem_of_getElem? (i := 944) (by decide +kernel)) rfl, pv_in (List.mem_of_getElem? (i := 101) (by decide +kernel)) rfl, by decide, by decide, by decide +kernel⟩
theorem okX11_nearness : pvOk mX11_nearness 2 := ⟨pv_in (List.mem_of_getElem? (i := 948) (by decide +kernel)) rfl, pv_in (List.mem_of_getElem? (i := 101) (by decide +kernel)) rfl, by decide, by decide, by decide +kernel⟩
theorem okX11_person : pvOk mX11_person 3 := ⟨pv_in (List.mem_of_getElem? (i := 954) (by decide +kernel)) rfl, pv_in (List.mem_of_getElem? (i := 101) (by decide +kernel)) rfl, by decide, by decide, by decide +kernel⟩
theorem okX7_addPerson : pvOk mX7_addPerson 3 := ⟨pv_in (List.mem_of_getElem? (i := 958) (by decide +kernel)) rfl, pv_in (List.mem_of_getElem? (i := 108) (by decide +kernel)) rfl, by decide, by decide, by decide +kernel⟩
theorem okX11_hears : pvOk mX11_hears 2 := ⟨pv_in (List.mem_of_getElem? (i := 962) (by decide +kernel)) rfl, pv_in (List.mem_of_getElem? (i := 101) (by decide +kernel)) rfl, by decide, by decide, by decide +kernel⟩
theorem okX7_hasPerson : pvOk mX7_hasPerson 1 := ⟨pv_in (List.mem_of_getElem? (i := 966) (by decide +kernel)) rfl, pv_in (List.mem_of_getElem? (i := 108) (by decide +kernel)) rfl, by decide, by decide, by decide +kernel⟩
theorem okX11_offer : pvOk mX11_offer 3 := ⟨pv_in (List.mem_of_getElem? (i := 970) (by decide +kernel)) rfl, pv_in (List.mem_of_getElem? (i := 101) (by decide +kernel)) rfl, by decide, by decide, by decide +kernel⟩
theorem okX11_isWeekToCome : pvOk mX11_isWeekToCome 1 := ⟨pv_in (List.mem_of_getElem? (i := 974) (by decide +kernel)) rfl, pv_in (List.mem_of_getElem? (i := 101) (by decide +kernel)) rfl, by decide, by decide, by decide +kernel⟩
theorem okX11_pull : pvOk mX11_pull 1 := ⟨pv_in (List.mem_of_getElem? (i := 978) (by decide +kernel)) rfl, pv_in (List.mem_of_getElem? (i := 101) (by decide +kernel)) rfl, by decide, by decide, by decide +kernel⟩
theorem okX11_gone : pvOk mX11_gone 1 := ⟨pv_in (List.mem_of_getElem? (i := 982) (by decide +kernel)) rfl, pv_in (List.mem_of_getElem? (i := 101) (by decide +kernel)) rfl, by decide, by decide, by decide +kernel⟩
theorem okX11_weeks : pvOk mX11_weeks 1 := ⟨pv_in (List.mem_of_getElem? (i := 986) (by decide +kernel)) rfl, pv_in (List.mem_of_getElem? (i := 101) (by decide +kernel)) rfl, by decide, by decide, by decide +kernel⟩
theorem okX7_takeOffers : pvOk mX7_takeOffers 1 := ⟨pv_in (List.mem_of_getElem? (i := 990) (by decide +kernel)) rfl, pv_in (List.mem_of_getElem? (i := 108) (by decide +kernel)) rfl, by decide, by decide, by decide +kernel⟩
theorem okX7_isThere : pvOk mX7_isThere 1 := ⟨pv_in (List.mem_of_getElem? (i := 994) (by decide +kernel)) rfl, pv_in (List.mem_of_getElem? (i := 108) (by decide +kernel)) rfl, by decide, by decide, by decide +kernel⟩
theorem okX7_takes : pvOk mX7_takes 1 := ⟨pv_in (List.mem_of_getElem? (i := 998) (by decide +kernel)) rfl, pv_in (List.mem_of_getElem? (i := 108) (by decide +kernel)) rfl, by decide, by decide, by decide +kernel⟩
theorem okX11_feed : pvOk mX11_feed 5 := ⟨pv_in (List.mem_of_getElem? (i := 1002) (by decide +kernel)) rfl, pv_in (List.mem_of_getElem? (i := 101) (by decide +kernel)) rfl, by decide, by decide, by decide +kernel⟩
theorem okX6_hasRoom : pvOk mX6_hasRoom 1 := ⟨pv_in (List.mem_of_getElem? (i := 1006) (by decide +kernel)) rfl, pv_in (List.mem_of_getElem? (i := 112) (by decide +kernel)) rfl, by decide, by decide, by decide +kernel⟩
theorem okX6_addWord : pvOk mX6_addWord 1 := ⟨pv_in (List.mem_of_getElem? (i := 1010) (by decide +kernel)) rfl, pv_in (List.mem_of_getElem? (i := 112) (by decide +kernel)) rfl, by decide, by decide, by decide +kernel⟩
theorem okX11_end : pvOk mX11_end 1 := ⟨pv_in (List.mem_of_getElem? (i := 1014) (by decide +kernel)) rfl, pv_in (List.mem_of_getElem? (i := 101) (by decide +kernel)) rfl, by decide, by decide, by decide +kernel⟩
theorem okX11_act : pvOk mX11_act 0 := ⟨pv_in (List.mem_of_getElem? (i := 1018) (by decide +kernel)) rfl, pv_in (List.mem_of_getElem? (i := 101) (by decide +kernel)) rfl, by decide, by decide, by decide +kernel⟩
theorem okX6_readInto : pvOk mX6_readInto 1 := ⟨pv_in (List.mem_of_getElem? (i := 1022) (by decide +kernel)) rfl, pv_in (List.mem_of_getElem? (i := 112) (by decide +kernel)) rfl, by decide, by decide, by decide +kernel⟩
theorem okX6_split : pvOk mX6_split 0 := ⟨pv_in (List.mem_of_getElem? (i := 1026) (by decide +kernel)) rfl, pv_in (List.mem_of_getElem? (i := 112) (by decide +kernel)) rfl, by decide, by decide, by decide +kernel⟩
theorem okX6_endOfToken : pvOk mX6_endOfToken 1 := ⟨pv_in (List.mem_of_getElem? (i := 1030) (by decide +kernel)) rfl, pv_in (List.mem_of_getElem? (i := 112) (by decide +kernel)) rfl, by decide, by decide, by decide +kernel⟩
theorem okX6_familyOf : pvOk mX6_familyOf 1 := ⟨pv_in (List.mem_of_getElem? (i := 1033) (by decide +kernel)) rfl, pv_in (List.mem_of_getElem? (i := 112) (by decide +kernel)) rfl, by decide, by decide, by decide +kernel⟩
theorem okX6_tokenOf : pvOk mX6_tokenOf 2 := ⟨pv_in (List.mem_of_getElem? (i := 1037) (by decide +kernel)) rfl, pv_in (List.mem_of_getElem? (i := 112) (by decide +kernel)) rfl, by decide, by decide, by decide +kernel⟩
theorem okX6_wordOf : pvOk mX6_wordOf 2 := ⟨pv_in (List.mem_of_getElem? (i := 1041) (by decide +kernel)) rfl, pv_in (List.mem_of_getElem? (i := 112) (by decide +kernel)) rfl, by decide, by decide, by decide +kernel⟩
theorem okJ0_length_8abf5 : pvOk mJ0_length_8abf5 0 := ⟨pv_in (List.mem_of_getElem? (i := 1046) (by decide +kernel)) rfl, pv_in (List.mem_of_getElem? (i := 118) (by decide +kernel)) rfl, by decide, by decide, by decide +kernel⟩
theorem okJ0_coder_7d493 : pvOk mJ0_coder_7d493 0 := ⟨pv_in (List.mem_of_getElem? (i := 1050) (by decide +kernel)) rfl, pv_in (List.mem_of_getElem? (i := 118) (by decide +kernel)) rfl, by decide, by decide, by decide +kernel⟩
theorem okJ0_charAt_5068e : pvOk mJ0_charAt_5068e 1 := ⟨pv_in (List.mem_of_getElem? (i := 1056) (by decide +kernel)) rfl, pv_in (List.mem_of_getElem? (i := 118) (by decide +kernel)) rfl, by decide, by decide, by decide +kernel⟩
theorem okJ0_isLatin1_aae02 : pvOk mJ0_isLatin1_aae02 0 := ⟨pv_in (List.mem_of_getElem? (i := 1060) (by decide +kernel)) rfl, pv_in (List.mem_of_getElem? (i := 118) (by decide +kernel)) rfl, by decide, by decide, by decide +kernel⟩
theorem okJ1_charAt_3b067 : pvOk mJ1_charAt_3b067 2 := ⟨pv_in (List.mem_of_getElem? (i := 1063) (by decide +kernel)) rfl, pv_in (List.mem_of_getElem? (i := 119) (by decide +kernel)) rfl, by decide, by decide, by decide +kernel⟩
theorem okJ0_checkIndex_df160 : pvOk mJ0_checkIndex_df160 2 := ⟨pv_in (List.mem_of_getElem? (i := 1066) (by decide +kernel)) rfl, pv_in (List.mem_of_getElem? (i := 118) (by decide +kernel)) rfl, by decide, by decide, by decide +kernel⟩
theorem okJ3_checkIndex_8e157 : pvOk mJ3_checkIndex_8e157 3 := ⟨pv_in (List.mem_of_getElem? (i := 1071) (by decide +kernel)) rfl, pv_in (List.mem_of_getElem? (i := 120) (by decide +kernel)) rfl, by decide, by decide, by decide +kernel⟩
theorem okJ2_charAt_3b067 : pvOk mJ2_charAt_3b067 2 := ⟨pv_in (List.mem_of_getElem? (i := 1074) (by decide +kernel)) rfl, pv_in (List.mem_of_getElem? (i := 121) (by decide +kernel)) rfl, by decide, by decide, by decide +kernel⟩
theorem okJ2_checkIndex_2214a : pvOk mJ2_checkIndex_2214a 2 := ⟨pv_in (List.mem_of_getElem? (i := 1077) (by decide +kernel)) rfl, pv_in (List.mem_of_getElem? (i := 121) (by decide +kernel)) rfl, by decide, by decide, by decide +kernel⟩
theorem okJ2_length_9d52b : pvOk mJ2_length_9d52b 1 := ⟨pv_in (List.mem_of_getElem? (i := 1080) (by decide +kernel)) rfl, pv_in (List.mem_of_getElem? (i := 121) (by decide +kernel)) rfl, by decide, by decide, by decide +kernel⟩
theorem okJ2_getChar_3b067 : pvOk mJ2_getChar_3b067 2 := ⟨pv_in (List.mem_of_getElem? (i := 1084) (by decide +kernel)) rfl, pv_in (List.mem_of_getElem? (i := 121) (by decide +kernel)) rfl, by decide, by decide, by decide +kernel⟩
theorem okX6_isWord : pvOk mX6_isWord 3 := ⟨pv_in (List.mem_of_getElem? (i := 1094) (by decide +kernel)) rfl, pv_in (List.mem_of_getElem? (i := 112) (by decide +kernel)) rfl, by decide, by decide, by decide +kernel⟩
theorem okX6_numberOf : pvOk mX6_numberOf 2 := ⟨pv_in (List.mem_of_getElem? (i := 1098) (by decide +kernel)) rfl, pv_in (List.mem_of_getElem? (i := 112) (by decide +kernel)) rfl, by decide, by decide, by decide +kernel⟩
theorem okX0_clear : pvOk mX0_clear 0 := ⟨pv_in (List.mem_of_getElem? (i := 1103) (by decide +kernel)) rfl, pv_in (List.mem_of_getElem? (i := 113) (by decide +kernel)) rfl, by decide, by decide, by decide +kernel⟩
theorem okX6_readClause : pvOk mX6_readClause 0 := ⟨pv_in (List.mem_of_getElem? (i := 1107) (by decide +kernel)) rfl, pv_in (List.mem_of_getElem? (i := 112) (by decide +kernel)) rfl, by decide, by decide, by decide +kernel⟩
theorem okX6_refuse : pvOk mX6_refuse 1 := ⟨pv_in (List.mem_of_getElem? (i := 1111) (by decide +kernel)) rfl, pv_in (List.mem_of_getElem? (i := 112) (by decide +kernel)) rfl, by decide, by decide, by decide +kernel⟩
theorem okX0_addClause : pvOk mX0_addClause 1 := ⟨pv_in (List.mem_of_getElem? (i := 1116) (by decide +kernel)) rfl, pv_in (List.mem_of_getElem? (i := 113) (by decide +kernel)) rfl, by decide, by decide, by decide +kernel⟩
theorem okX6_advance : pvOk mX6_advance 0 := ⟨pv_in (List.mem_of_getElem? (i := 1120) (by decide +kernel)) rfl, pv_in (List.mem_of_getElem? (i := 112) (by decide +kernel)) rfl, by decide, by decide, by decide +kernel⟩
theorem okX6_readOwner : pvOk mX6_readOwner 0 := ⟨pv_in (List.mem_of_getElem? (i := 1124) (by decide +kernel)) rfl, pv_in (List.mem_of_getElem? (i := 112) (by decide +kernel)) rfl, by decide, by decide, by decide +kernel⟩
theorem okX0_setOwner : pvOk mX0_setOwner 1 := ⟨pv_in (List.mem_of_getElem? (i := 1128) (by decide +kernel)) rfl, pv_in (List.mem_of_getElem? (i := 113) (by decide +kernel)) rfl, by decide, by decide, by decide +kernel⟩
theorem okX6_readSum : pvOk mX6_readSum 1 := ⟨pv_in (List.mem_of_getElem? (i := 1132) (by decide +kernel)) rfl, pv_in (List.mem_of_getElem? (i := 112) (by decide +kernel)) rfl, by decide, by decide, by decide +kernel⟩
theorem okX6_readOne : pvOk mX6_readOne 1 := ⟨pv_in (List.mem_of_getElem? (i := 1136) (by decide +kernel)) rfl, pv_in (List.mem_of_getElem? (i := 112) (by decide +kernel)) rfl, by decide, by decide, by decide +kernel⟩
theorem okX6_faultOfOne : pvOk mX6_faultOfOne 1 := ⟨pv_in (List.mem_of_getElem? (i := 1140) (by decide +kernel)) rfl, pv_in (List.mem_of_getElem? (i := 112) (by decide +kernel)) rfl, by decide, by decide, by decide +kernel⟩
theorem okX0_add : pvOk mX0_add 1 := ⟨pv_in (List.mem_of_getElem? (i := 1145) (by decide +kernel)) rfl, pv_in (List.mem_of_getElem? (i := 113) (by decide +kernel)) rfl, by decide, by decide, by decide +kernel⟩
theorem okX6_readEither : pvOk mX6_readEither 0 := ⟨pv_in (List.mem_of_getElem? (i := 1149) (by decide +kernel)) rfl, pv_in (List.mem_of_getElem? (i := 112) (by decide +kernel)) rfl, by decide, by decide, by decide +kernel⟩
theorem okX6_readAsked : pvOk mX6_readAsked 1 := ⟨pv_in (List.mem_of_getElem? (i := 1153) (by decide +kernel)) rfl, pv_in (List.mem_of_getElem? (i := 112) (by decide +kernel)) rfl, by decide, by decide, by decide +kernel⟩
theorem okX6_isComparison : pvOk mX6_isComparison 1 := ⟨pv_in (List.mem_of_getElem? (i := 1156) (by decide +kernel)) rfl, pv_in (List.mem_of_getElem? (i := 112) (by decide +kernel)) rfl, by decide, by decide, by decide +kernel⟩
theorem okX11_fault : pvOk mX11_fault 1 := ⟨pv_in (List.mem_of_getElem? (i := 1161) (by decide +kernel)) rfl, pv_in (List.mem_of_getElem? (i := 101) (by decide +kernel)) rfl, by decide, by decide, by decide +kernel⟩
theorem okX11_force : pvOk mX11_force 3 := ⟨pv_in (List.mem_of_getElem? (i := 1165) (by decide +kernel)) rfl, pv_in (List.mem_of_getElem? (i := 101) (by decide +kernel)) rfl, by decide, by decide, by decide +kernel⟩
theorem okX5_addForce : pvOk mX5_addForce 3 := ⟨pv_in (List.mem_of_getElem? (i := 1169) (by decide +kernel)) rfl, pv_in (List.mem_of_getElem? (i := 109) (by decide +kernel)) rfl, by decide, by decide, by decide +kernel⟩
theorem okX11_by : pvOk mX11_by 3 := ⟨pv_in (List.mem_of_getElem? (i := 1173) (by decide +kernel)) rfl, pv_in (List.mem_of_getElem? (i := 101) (by decide +kernel)) rfl, by decide, by decide, by decide +kernel⟩
theorem okX11_shutOf : pvOk mX11_shutOf 2 := ⟨pv_in (List.mem_of_getElem? (i := 1177) (by decide +kernel)) rfl, pv_in (List.mem_of_getElem? (i := 101) (by decide +kernel)) rfl, by decide, by decide, by decide +kernel⟩
theorem okX11_actFor : pvOk mX11_actFor 2 := ⟨pv_in (List.mem_of_getElem? (i := 1181) (by decide +kernel)) rfl, pv_in (List.mem_of_getElem? (i := 101) (by decide +kernel)) rfl, by decide, by decide, by decide +kernel⟩
theorem okX0_first : pvOk mX0_first 1 := ⟨pv_in (List.mem_of_getElem? (i := 1185) (by decide +kernel)) rfl, pv_in (List.mem_of_getElem? (i := 113) (by decide +kernel)) rfl, by decide, by decide, by decide +kernel⟩
theorem okX11_nameHouse : pvOk mX11_nameHouse 3 := ⟨pv_in (List.mem_of_getElem? (i := 1189) (by decide +kernel)) rfl, pv_in (List.mem_of_getElem? (i := 101) (by decide +kernel)) rfl, by decide, by decide, by decide +kernel⟩
theorem okX7_thereIn : pvOk mX7_thereIn 1 := ⟨pv_in (List.mem_of_getElem? (i := 1193) (by decide +kernel)) rfl, pv_in (List.mem_of_getElem? (i := 108) (by decide +kernel)) rfl, by decide, by decide, by decide +kernel⟩
theorem okX0_value : pvOk mX0_value 3 := ⟨pv_in (List.mem_of_getElem? (i := 1197) (by decide +kernel)) rfl, pv_in (List.mem_of_getElem? (i := 113) (by decide +kernel)) rfl, by decide, by decide, by decide +kernel⟩
theorem okX0_joined : pvOk mX0_joined 3 := ⟨pv_in (List.mem_of_getElem? (i := 1201) (by decide +kernel)) rfl, pv_in (List.mem_of_getElem? (i := 113) (by decide +kernel)) rfl, by decide, by decide, by decide +kernel⟩
theorem okX0_limited : pvOk mX0_limited 1 := ⟨pv_in (List.mem_of_getElem? (i := 1204) (by decide +kernel)) rfl, pv_in (List.mem_of_getElem? (i := 113) (by decide +kernel)) rfl, by decide, by decide, by decide +kernel⟩
theorem okJ9_min_f86c9 : pvOk mJ9_min_f86c9 2 := ⟨pv_in (List.mem_of_getElem? (i := 1209) (by decide +kernel)) rfl, pv_in (List.mem_of_getElem? (i := 103) (by decide +kernel)) rfl, by decide, by decide, by decide +kernel⟩
theorem okJ9_max_f86c9 : pvOk mJ9_max_f86c9 2 := ⟨pv_in (List.mem_of_getElem? (i := 1212) (by decide +kernel)) rfl, pv_in (List.mem_of_getElem? (i := 103) (by decide +kernel)) rfl, by decide, by decide, by decide +kernel⟩
theorem okX0_isSo : pvOk mX0_isSo 3 := ⟨pv_in (List.mem_of_getElem? (i := 1215) (by decide +kernel)) rfl, pv_in (List.mem_of_getElem? (i := 113) (by decide +kernel)) rfl, by decide, by decide, by decide +kernel⟩
theorem okX11_worthOf : pvOk mX11_worthOf 3 := ⟨pv_in (List.mem_of_getElem? (i := 1219) (by decide +kernel)) rfl, pv_in (List.mem_of_getElem? (i := 101) (by decide +kernel)) rfl, by decide, by decide, by decide +kernel⟩
theorem okX11_whose : pvOk mX11_whose 1 := ⟨pv_in (List.mem_of_getElem? (i := 1223) (by decide +kernel)) rfl, pv_in (List.mem_of_getElem? (i := 101) (by decide +kernel)) rfl, by decide, by decide, by decide +kernel⟩
theorem okX7_howManyWent : pvOk mX7_howManyWent 0 := ⟨pv_in (List.mem_of_getElem? (i := 1227) (by decide +kernel)) rfl, pv_in (List.mem_of_getElem? (i := 108) (by decide +kernel)) rfl, by decide, by decide, by decide +kernel⟩
theorem okX11_vote : pvOk mX11_vote 2 := ⟨pv_in (List.mem_of_getElem? (i := 1231) (by decide +kernel)) rfl, pv_in (List.mem_of_getElem? (i := 101) (by decide +kernel)) rfl, by decide, by decide, by decide +kernel⟩
theorem okX11_countVotes : pvOk mX11_countVotes 1 := ⟨pv_in (List.mem_of_getElem? (i := 1235) (by decide +kernel)) rfl, pv_in (List.mem_of_getElem? (i := 101) (by decide +kernel)) rfl, by decide, by decide, by decide +kernel⟩
theorem okX11_votesYes : pvOk mX11_votesYes 4 := ⟨pv_in (List.mem_of_getElem? (i := 1240) (by decide +kernel)) rfl, pv_in (List.mem_of_getElem? (i := 101) (by decide +kernel)) rfl, by decide, by decide, by decide +kernel⟩
theorem okX11_leastGift : pvOk mX11_leastGift 2 := ⟨pv_in (List.mem_of_getElem? (i := 1244) (by decide +kernel)) rfl, pv_in (List.mem_of_getElem? (i := 101) (by decide +kernel)) rfl, by decide, by decide, by decide +kernel⟩
theorem okX11_place : pvOk mX11_place 2 := ⟨pv_in (List.mem_of_getElem? (i := 1248) (by decide +kernel)) rfl, pv_in (List.mem_of_getElem? (i := 101) (by decide +kernel)) rfl, by decide, by decide, by decide +kernel⟩
theorem okX8_add : pvOk mX8_add 2 := ⟨pv_in (List.mem_of_getElem? (i := 1252) (by decide +kernel)) rfl, pv_in (List.mem_of_getElem? (i := 110) (by decide +kernel)) rfl, by decide, by decide, by decide +kernel⟩
theorem okX11_best : pvOk mX11_best 3 := ⟨pv_in (List.mem_of_getElem? (i := 1257) (by decide +kernel)) rfl, pv_in (List.mem_of_getElem? (i := 101) (by decide +kernel)) rfl, by decide, by decide, by decide +kernel⟩
theorem okX11_findBest : pvOk mX11_findBest 3 := ⟨pv_in (List.mem_of_getElem? (i := 1262) (by decide +kernel)) rfl, pv_in (List.mem_of_getElem? (i := 101) (by decide +kernel)) rfl, by decide, by decide, by decide +kernel⟩
theorem okX8_costOf : pvOk mX8_costOf 1 := ⟨pv_in (List.mem_of_getElem? (i := 1266) (by decide +kernel)) rfl, pv_in (List.mem_of_getElem? (i := 110) (by decide +kernel)) rfl, by decide, by decide, by decide +kernel⟩
theorem okX8_cellsOf : pvOk mX8_cellsOf 1 := ⟨pv_in (List.mem_of_getElem? (i := 1271) (by decide +kernel)) rfl, pv_in (List.mem_of_getElem? (i := 110) (by decide +kernel)) rfl, by decide, by decide, by decide +kernel⟩
theorem okX11_greatestLost : pvOk mX11_greatestLost 4 := ⟨pv_in (List.mem_of_getElem? (i := 1276) (by decide +kernel)) rfl, pv_in (List.mem_of_getElem? (i := 101) (by decide +kernel)) rfl, by decide, by decide, by decide +kernel⟩
theorem okX1_standAs : pvOk mX1_standAs 1 := ⟨pv_in (List.mem_of_getElem? (i := 1280) (by decide +kernel)) rfl, pv_in (List.mem_of_getElem? (i := 111) (by decide +kernel)) rfl, by decide, by decide, by decide +kernel⟩
theorem okX11_image : pvOk mX11_image 0 := ⟨pv_in (List.mem_of_getElem? (i := 1284) (by decide +kernel)) rfl, pv_in (List.mem_of_getElem? (i := 101) (by decide +kernel)) rfl, by decide, by decide, by decide +kernel⟩
theorem okX10_take : pvOk mX10_take 1 := ⟨pv_in (List.mem_of_getElem? (i := 1288) (by decide +kernel)) rfl, pv_in (List.mem_of_getElem? (i := 104) (by decide +kernel)) rfl, by decide, by decide, by decide +kernel⟩
theorem okX3_take : pvOk mX3_take 1 := ⟨pv_in (List.mem_of_getElem? (i := 1292) (by decide +kernel)) rfl, pv_in (List.mem_of_getElem? (i := 105) (by decide +kernel)) rfl, by decide, by decide, by decide +kernel⟩
theorem okX9_take : pvOk mX9_take 1 := ⟨pv_in (List.mem_of_getElem? (i := 1297) (by decide +kernel)) rfl, pv_in (List.mem_of_getElem? (i := 106) (by decide +kernel)) rfl, by decide, by decide, by decide +kernel⟩
theorem okX4_take : pvOk mX4_take 1 := ⟨pv_in (List.mem_of_getElem? (i := 1302) (by decide +kernel)) rfl, pv_in (List.mem_of_getElem? (i := 107) (by decide +kernel)) rfl, by decide, by decide, by decide +kernel⟩
theorem okX7_take : pvOk mX7_take 1 := ⟨pv_in (List.mem_of_getElem? (i := 1307) (by decide +kernel)) rfl, pv_in (List.mem_of_getElem? (i := 108) (by decide +kernel)) rfl, by decide, by decide, by decide +kernel⟩
theorem okX5_take : pvOk mX5_take 1 := ⟨pv_in (List.mem_of_getElem? (i := 1312) (by decide +kernel)) rfl, pv_in (List.mem_of_getElem? (i := 109) (by decide +kernel)) rfl, by decide, by decide, by decide +kernel⟩
theorem okX8_take : pvOk mX8_take 1 := ⟨pv_in (List.mem_of_getElem? (i := 1317) (by decide +kernel)) rfl, pv_in (List.mem_of_getElem? (i := 110) (by decide +kernel)) rfl, by decide, by decide, by decide +kernel⟩
theorem okX11_back : pvOk mX11_back 0 := ⟨pv_in (List.mem_of_getElem? (i := 1322) (by decide +kernel)) rfl, pv_in (List.mem_of_getElem? (i := 101) (by decide +kernel)) rfl, by decide, by decide, by decide +kernel⟩
theorem okX11_about : pvOk mX11_about 1 := ⟨pv_in (List.mem_of_getElem? (i := 1326) (by decide +kernel)) rfl, pv_in (List.mem_of_getElem? (i := 101) (by decide +kernel)) rfl, by decide, by decide, by decide +kernel⟩
theorem okL_cell : pvOk mL_cell 2 := ⟨pv_in (List.mem_of_getElem? (i := 1329) (by decide +kernel)) rfl, pv_in (List.mem_of_getElem? (i := 100) (by decide +kernel)) rfl, by decide, by decide, by decide +kernel⟩
theorem okX12_init : pvOk mX12_init 2 := ⟨pv_in (List.mem_of_getElem? (i := 1334) (by decide +kernel)) rfl, pv_in (List.mem_of_getElem? (i := 114) (by decide +kernel)) rfl, by decide, by decide, by decide +kernel⟩
theorem okX12_copy : pvOk mX12_copy 2 := ⟨pv_in (List.mem_of_getElem? (i := 1339) (by decide +kernel)) rfl, pv_in (List.mem_of_getElem? (i := 114) (by decide +kernel)) rfl, by decide, by decide, by decide +kernel⟩
theorem okX12_cell : pvOk mX12_cell 3 := ⟨pv_in (List.mem_of_getElem? (i := 1470) (by decide +kernel)) rfl, pv_in (List.mem_of_getElem? (i := 114) (by decide +kernel)) rfl, by decide, by decide, by decide +kernel⟩
theorem okX12_isCell : pvOk mX12_isCell 1 := ⟨pv_in (List.mem_of_getElem? (i := 1474) (by decide +kernel)) rfl, pv_in (List.mem_of_getElem? (i := 114) (by decide +kernel)) rfl, by decide, by decide, by decide +kernel⟩
theorem okX12_isIn : pvOk mX12_isIn 3 := ⟨pv_in (List.mem_of_getElem? (i := 1477) (by decide +kernel)) rfl, pv_in (List.mem_of_getElem? (i := 114) (by decide +kernel)) rfl, by decide, by decide, by decide +kernel⟩
theorem okX12_rules : pvOk mX12_rules 3 := ⟨pv_in (List.mem_of_getElem? (i := 1481) (by decide +kernel)) rfl, pv_in (List.mem_of_getElem? (i := 114) (by decide +kernel)) rfl, by decide, by decide, by decide +kernel⟩
theorem okX12_hole : pvOk mX12_hole 1 := ⟨pv_in (List.mem_of_getElem? (i := 1485) (by decide +kernel)) rfl, pv_in (List.mem_of_getElem? (i := 114) (by decide +kernel)) rfl, by decide, by decide, by decide +kernel⟩
theorem okX12_plug : pvOk mX12_plug 1 := ⟨pv_in (List.mem_of_getElem? (i := 1489) (by decide +kernel)) rfl, pv_in (List.mem_of_getElem? (i := 114) (by decide +kernel)) rfl, by decide, by decide, by decide +kernel⟩
theorem okX12_isHole : pvOk mX12_isHole 1 := ⟨pv_in (List.mem_of_getElem? (i := 1493) (by decide +kernel)) rfl, pv_in (List.mem_of_getElem? (i := 114) (by decide +kernel)) rfl, by decide, by decide, by decide +kernel⟩
theorem okX12_pour : pvOk mX12_pour 2 := ⟨pv_in (List.mem_of_getElem? (i := 1497) (by decide +kernel)) rfl, pv_in (List.mem_of_getElem? (i := 114) (by decide +kernel)) rfl, by decide, by decide, by decide +kernel⟩
theorem okX12_fillOf : pvOk mX12_fillOf 1 := ⟨pv_in (List.mem_of_getElem? (i := 1501) (by decide +kernel)) rfl, pv_in (List.mem_of_getElem? (i := 114) (by decide +kernel)) rfl, by decide, by decide, by decide +kernel⟩
theorem okX12_beside : pvOk mX12_beside 2 := ⟨pv_in (List.mem_of_getElem? (i := 1505) (by decide +kernel)) rfl, pv_in (List.mem_of_getElem? (i := 114) (by decide +kernel)) rfl, by decide, by decide, by decide +kernel⟩
theorem okX12_fill : pvOk mX12_fill 1 := ⟨pv_in (List.mem_of_getElem? (i := 1509) (by decide +kernel)) rfl, pv_in (List.mem_of_getElem? (i := 114) (by decide +kernel)) rfl, by decide, by decide, by decide +kernel⟩
theorem okX12_trench : pvOk mX12_trench 4 := ⟨pv_in (List.mem_of_getElem? (i := 1513) (by decide +kernel)) rfl, pv_in (List.mem_of_getElem? (i := 114) (by decide +kernel)) rfl, by decide, by decide, by decide +kernel⟩
theorem okX12_state : pvOk mX12_state 2 := ⟨pv_in (List.mem_of_getElem? (i := 1517) (by decide +kernel)) rfl, pv_in (List.mem_of_getElem? (i := 114) (by decide +kernel)) rfl, by decide, by decide, by decide +kernel⟩
theorem okX12_isWeek : pvOk mX12_isWeek 1 := ⟨pv_in (List.mem_of_getElem? (i := 1520) (by decide +kernel)) rfl, pv_in (List.mem_of_getElem? (i := 114) (by decide +kernel)) rfl, by decide, by decide, by decide +kernel⟩
theorem okX12_burns : pvOk mX12_burns 4 := ⟨pv_in (List.mem_of_getElem? (i := 1524) (by decide +kernel)) rfl, pv_in (List.mem_of_getElem? (i := 114) (by decide +kernel)) rfl, by decide, by decide, by decide +kernel⟩
theorem okX12_isState : pvOk mX12_isState 1 := ⟨pv_in (List.mem_of_getElem? (i := 1528) (by decide +kernel)) rfl, pv_in (List.mem_of_getElem? (i := 114) (by decide +kernel)) rfl, by decide, by decide, by decide +kernel⟩
theorem okX12_run : pvOk mX12_run 4 := ⟨pv_in (List.mem_of_getElem? (i := 1532) (by decide +kernel)) rfl, pv_in (List.mem_of_getElem? (i := 114) (by decide +kernel)) rfl, by decide, by decide, by decide +kernel⟩
theorem okX12_first : pvOk mX12_first 0 := ⟨pv_in (List.mem_of_getElem? (i := 1536) (by decide +kernel)) rfl, pv_in (List.mem_of_getElem? (i := 114) (by decide +kernel)) rfl, by decide, by decide, by decide +kernel⟩
theorem okX12_begin : pvOk mX12_begin 3 := ⟨pv_in (List.mem_of_getElem? (i := 1540) (by decide +kernel)) rfl, pv_in (List.mem_of_getElem? (i := 114) (by decide +kernel)) rfl, by decide, by decide, by decide +kernel⟩
theorem okX12_blow : pvOk mX12_blow 2 := ⟨pv_in (List.mem_of_getElem? (i := 1544) (by decide +kernel)) rfl, pv_in (List.mem_of_getElem? (i := 114) (by decide +kernel)) rfl, by decide, by decide, by decide +kernel⟩
theorem okX12_isOpen : pvOk mX12_isOpen 1 := ⟨pv_in (List.mem_of_getElem? (i := 1548) (by decide +kernel)) rfl, pv_in (List.mem_of_getElem? (i := 114) (by decide +kernel)) rfl, by decide, by decide, by decide +kernel⟩
theorem okX12_burnOn : pvOk mX12_burnOn 0 := ⟨pv_in (List.mem_of_getElem? (i := 1552) (by decide +kernel)) rfl, pv_in (List.mem_of_getElem? (i := 114) (by decide +kernel)) rfl, by decide, by decide, by decide +kernel⟩
theorem okX12_lost : pvOk mX12_lost 2 := ⟨pv_in (List.mem_of_getElem? (i := 1556) (by decide +kernel)) rfl, pv_in (List.mem_of_getElem? (i := 114) (by decide +kernel)) rfl, by decide, by decide, by decide +kernel⟩
theorem okX12_lostAt : pvOk mX12_lostAt 2 := ⟨pv_in (List.mem_of_getElem? (i := 1560) (by decide +kernel)) rfl, pv_in (List.mem_of_getElem? (i := 114) (by decide +kernel)) rfl, by decide, by decide, by decide +kernel⟩
theorem okX12_fed : pvOk mX12_fed 3 := ⟨pv_in (List.mem_of_getElem? (i := 1564) (by decide +kernel)) rfl, pv_in (List.mem_of_getElem? (i := 114) (by decide +kernel)) rfl, by decide, by decide, by decide +kernel⟩
theorem okX12_read : pvOk mX12_read 3 := ⟨pv_in (List.mem_of_getElem? (i := 1568) (by decide +kernel)) rfl, pv_in (List.mem_of_getElem? (i := 114) (by decide +kernel)) rfl, by decide, by decide, by decide +kernel⟩
theorem okX12_let : pvOk mX12_let 2 := ⟨pv_in (List.mem_of_getElem? (i := 1572) (by decide +kernel)) rfl, pv_in (List.mem_of_getElem? (i := 114) (by decide +kernel)) rfl, by decide, by decide, by decide +kernel⟩
theorem okX12_runAll : pvOk mX12_runAll 0 := ⟨pv_in (List.mem_of_getElem? (i := 1576) (by decide +kernel)) rfl, pv_in (List.mem_of_getElem? (i := 114) (by decide +kernel)) rfl, by decide, by decide, by decide +kernel⟩
theorem okX12_manyLet : pvOk mX12_manyLet 1 := ⟨pv_in (List.mem_of_getElem? (i := 1580) (by decide +kernel)) rfl, pv_in (List.mem_of_getElem? (i := 114) (by decide +kernel)) rfl, by decide, by decide, by decide +kernel⟩
theorem okX12_isLet : pvOk mX12_isLet 2 := ⟨pv_in (List.mem_of_getElem? (i := 1584) (by decide +kernel)) rfl, pv_in (List.mem_of_getElem? (i := 114) (by decide +kernel)) rfl, by decide, by decide, by decide +kernel⟩
theorem okX12_span : pvOk mX12_span 3 := ⟨pv_in (List.mem_of_getElem? (i := 1588) (by decide +kernel)) rfl, pv_in (List.mem_of_getElem? (i := 114) (by decide +kernel)) rfl, by decide, by decide, by decide +kernel⟩
theorem okX12_manyBurn : pvOk mX12_manyBurn 3 := ⟨pv_in (List.mem_of_getElem? (i := 1592) (by decide +kernel)) rfl, pv_in (List.mem_of_getElem? (i := 114) (by decide +kernel)) rfl, by decide, by decide, by decide +kernel⟩
theorem okX12_parts : pvOk mX12_parts 1 := ⟨pv_in (List.mem_of_getElem? (i := 1596) (by decide +kernel)) rfl, pv_in (List.mem_of_getElem? (i := 114) (by decide +kernel)) rfl, by decide, by decide, by decide +kernel⟩
theorem okX12_inTime : pvOk mX12_inTime 2 := ⟨pv_in (List.mem_of_getElem? (i := 1600) (by decide +kernel)) rfl, pv_in (List.mem_of_getElem? (i := 114) (by decide +kernel)) rfl, by decide, by decide, by decide +kernel⟩
theorem okX12_house : pvOk mX12_house 3 := ⟨pv_in (List.mem_of_getElem? (i := 1604) (by decide +kernel)) rfl, pv_in (List.mem_of_getElem? (i := 114) (by decide +kernel)) rfl, by decide, by decide, by decide +kernel⟩
theorem okX12_gas : pvOk mX12_gas 3 := ⟨pv_in (List.mem_of_getElem? (i := 1608) (by decide +kernel)) rfl, pv_in (List.mem_of_getElem? (i := 114) (by decide +kernel)) rfl, by decide, by decide, by decide +kernel⟩
theorem okX12_isHouse : pvOk mX12_isHouse 1 := ⟨pv_in (List.mem_of_getElem? (i := 1612) (by decide +kernel)) rfl, pv_in (List.mem_of_getElem? (i := 114) (by decide +kernel)) rfl, by decide, by decide, by decide +kernel⟩
theorem okX12_gasOf : pvOk mX12_gasOf 3 := ⟨pv_in (List.mem_of_getElem? (i := 1616) (by decide +kernel)) rfl, pv_in (List.mem_of_getElem? (i := 114) (by decide +kernel)) rfl, by decide, by decide, by decide +kernel⟩
theorem okX12_abs : pvOk mX12_abs 1 := ⟨pv_in (List.mem_of_getElem? (i := 1619) (by decide +kernel)) rfl, pv_in (List.mem_of_getElem? (i := 114) (by decide +kernel)) rfl, by decide, by decide, by decide +kernel⟩
theorem okX12_person : pvOk mX12_person 3 := ⟨pv_in (List.mem_of_getElem? (i := 1623) (by decide +kernel)) rfl, pv_in (List.mem_of_getElem? (i := 114) (by decide +kernel)) rfl, by decide, by decide, by decide +kernel⟩
theorem okX12_hears : pvOk mX12_hears 2 := ⟨pv_in (List.mem_of_getElem? (i := 1627) (by decide +kernel)) rfl, pv_in (List.mem_of_getElem? (i := 114) (by decide +kernel)) rfl, by decide, by decide, by decide +kernel⟩
theorem okX12_isPerson : pvOk mX12_isPerson 1 := ⟨pv_in (List.mem_of_getElem? (i := 1631) (by decide +kernel)) rfl, pv_in (List.mem_of_getElem? (i := 114) (by decide +kernel)) rfl, by decide, by decide, by decide +kernel⟩
theorem okX12_offer : pvOk mX12_offer 3 := ⟨pv_in (List.mem_of_getElem? (i := 1635) (by decide +kernel)) rfl, pv_in (List.mem_of_getElem? (i := 114) (by decide +kernel)) rfl, by decide, by decide, by decide +kernel⟩
theorem okX12_pull : pvOk mX12_pull 1 := ⟨pv_in (List.mem_of_getElem? (i := 1639) (by decide +kernel)) rfl, pv_in (List.mem_of_getElem? (i := 114) (by decide +kernel)) rfl, by decide, by decide, by decide +kernel⟩
theorem okX12_gone : pvOk mX12_gone 1 := ⟨pv_in (List.mem_of_getElem? (i := 1643) (by decide +kernel)) rfl, pv_in (List.mem_of_getElem? (i := 114) (by decide +kernel)) rfl, by decide, by decide, by decide +kernel⟩
theorem okX12_weeks : pvOk mX12_weeks 1 := ⟨pv_in (List.mem_of_getElem? (i := 1647) (by decide +kernel)) rfl, pv_in (List.mem_of_getElem? (i := 114) (by decide +kernel)) rfl, by decide, by decide, by decide +kernel⟩
theorem okX12_leave : pvOk mX12_leave 0 := ⟨pv_in (List.mem_of_getElem? (i := 1651) (by decide +kernel)) rfl, pv_in (List.mem_of_getElem? (i := 114) (by decide +kernel)) rfl, by decide, by decide, by decide +kernel⟩
theorem okX12_kinGone : pvOk mX12_kinGone 1 := ⟨pv_in (List.mem_of_getElem? (i := 1655) (by decide +kernel)) rfl, pv_in (List.mem_of_getElem? (i := 114) (by decide +kernel)) rfl, by decide, by decide, by decide +kernel⟩
theorem okX12_feed : pvOk mX12_feed 5 := ⟨pv_in (List.mem_of_getElem? (i := 1659) (by decide +kernel)) rfl, pv_in (List.mem_of_getElem? (i := 114) (by decide +kernel)) rfl, by decide, by decide, by decide +kernel⟩
theorem okX12_four : pvOk mX12_four 1 := ⟨pv_in (List.mem_of_getElem? (i := 1663) (by decide +kernel)) rfl, pv_in (List.mem_of_getElem? (i := 114) (by decide +kernel)) rfl, by decide, by decide, by decide +kernel⟩
theorem okX12_end : pvOk mX12_end 1 := ⟨pv_in (List.mem_of_getElem? (i := 1667) (by decide +kernel)) rfl, pv_in (List.mem_of_getElem? (i := 114) (by decide +kernel)) rfl, by decide, by decide, by decide +kernel⟩
theorem okX12_act : pvOk mX12_act 0 := ⟨pv_in (List.mem_of_getElem? (i := 1671) (by decide +kernel)) rfl, pv_in (List.mem_of_getElem? (i := 114) (by decide +kernel)) rfl, by decide, by decide, by decide +kernel⟩
theorem okX12_readText : pvOk mX12_readText 0 := ⟨pv_in (List.mem_of_getElem? (i := 1675) (by decide +kernel)) rfl, pv_in (List.mem_of_getElem? (i := 114) (by decide +kernel)) rfl, by decide, by decide, by decide +kernel⟩
theorem okX12_nextToken : pvOk mX12_nextToken 0 := ⟨pv_in (List.mem_of_getElem? (i := 1679) (by decide +kernel)) rfl, pv_in (List.mem_of_getElem? (i := 114) (by decide +kernel)) rfl, by decide, by decide, by decide +kernel⟩
theorem okX12_see : pvOk mX12_see 1 := ⟨pv_in (List.mem_of_getElem? (i := 1683) (by decide +kernel)) rfl, pv_in (List.mem_of_getElem? (i := 114) (by decide +kernel)) rfl, by decide, by decide, by decide +kernel⟩
theorem okX12_isDigit : pvOk mX12_isDigit 1 := ⟨pv_in (List.mem_of_getElem? (i := 1686) (by decide +kernel)) rfl, pv_in (List.mem_of_getElem? (i := 114) (by decide +kernel)) rfl, by decide, by decide, by decide +kernel⟩
theorem okX12_isLetter : pvOk mX12_isLetter 1 := ⟨pv_in (List.mem_of_getElem? (i := 1690) (by decide +kernel)) rfl, pv_in (List.mem_of_getElem? (i := 114) (by decide +kernel)) rfl, by decide, by decide, by decide +kernel⟩
theorem okX12_clause : pvOk mX12_clause 0 := ⟨pv_in (List.mem_of_getElem? (i := 1694) (by decide +kernel)) rfl, pv_in (List.mem_of_getElem? (i := 114) (by decide +kernel)) rfl, by decide, by decide, by decide +kernel⟩
theorem okX12_sortOf : pvOk mX12_sortOf 0 := ⟨pv_in (List.mem_of_getElem? (i := 1698) (by decide +kernel)) rfl, pv_in (List.mem_of_getElem? (i := 114) (by decide +kernel)) rfl, by decide, by decide, by decide +kernel⟩
theorem okX12_w4 : pvOk mX12_w4 4 := ⟨pv_in (List.mem_of_getElem? (i := 1701) (by decide +kernel)) rfl, pv_in (List.mem_of_getElem? (i := 114) (by decide +kernel)) rfl, by decide, by decide, by decide +kernel⟩
theorem okX12_w3 : pvOk mX12_w3 3 := ⟨pv_in (List.mem_of_getElem? (i := 1704) (by decide +kernel)) rfl, pv_in (List.mem_of_getElem? (i := 114) (by decide +kernel)) rfl, by decide, by decide, by decide +kernel⟩
theorem okX12_isWord : pvOk mX12_isWord 1 := ⟨pv_in (List.mem_of_getElem? (i := 1708) (by decide +kernel)) rfl, pv_in (List.mem_of_getElem? (i := 114) (by decide +kernel)) rfl, by decide, by decide, by decide +kernel⟩
theorem okX12_w5 : pvOk mX12_w5 5 := ⟨pv_in (List.mem_of_getElem? (i := 1711) (by decide +kernel)) rfl, pv_in (List.mem_of_getElem? (i := 114) (by decide +kernel)) rfl, by decide, by decide, by decide +kernel⟩
theorem okX12_summed : pvOk mX12_summed 0 := ⟨pv_in (List.mem_of_getElem? (i := 1715) (by decide +kernel)) rfl, pv_in (List.mem_of_getElem? (i := 114) (by decide +kernel)) rfl, by decide, by decide, by decide +kernel⟩
theorem okX12_goesOn : pvOk mX12_goesOn 0 := ⟨pv_in (List.mem_of_getElem? (i := 1719) (by decide +kernel)) rfl, pv_in (List.mem_of_getElem? (i := 114) (by decide +kernel)) rfl, by decide, by decide, by decide +kernel⟩
theorem okX12_hasParen : pvOk mX12_hasParen 0 := ⟨pv_in (List.mem_of_getElem? (i := 1723) (by decide +kernel)) rfl, pv_in (List.mem_of_getElem? (i := 114) (by decide +kernel)) rfl, by decide, by decide, by decide +kernel⟩
theorem okX12_behindOne : pvOk mX12_behindOne 0 := ⟨pv_in (List.mem_of_getElem? (i := 1727) (by decide +kernel)) rfl, pv_in (List.mem_of_getElem? (i := 114) (by decide +kernel)) rfl, by decide, by decide, by decide +kernel⟩
theorem okX12_settle : pvOk mX12_settle 1 := ⟨pv_in (List.mem_of_getElem? (i := 1731) (by decide +kernel)) rfl, pv_in (List.mem_of_getElem? (i := 114) (by decide +kernel)) rfl, by decide, by decide, by decide +kernel⟩
theorem okX12_emit : pvOk mX12_emit 2 := ⟨pv_in (List.mem_of_getElem? (i := 1735) (by decide +kernel)) rfl, pv_in (List.mem_of_getElem? (i := 114) (by decide +kernel)) rfl, by decide, by decide, by decide +kernel⟩
theorem okX12_push : pvOk mX12_push 1 := ⟨pv_in (List.mem_of_getElem? (i := 1739) (by decide +kernel)) rfl, pv_in (List.mem_of_getElem? (i := 114) (by decide +kernel)) rfl, by decide, by decide, by decide +kernel⟩
theorem okX12_whole : pvOk mX12_whole 0 := ⟨pv_in (List.mem_of_getElem? (i := 1743) (by decide +kernel)) rfl, pv_in (List.mem_of_getElem? (i := 114) (by decide +kernel)) rfl, by decide, by decide, by decide +kernel⟩
theorem okX12_beginOne : pvOk mX12_beginOne 0 := ⟨pv_in (List.mem_of_getElem? (i := 1747) (by decide +kernel)) rfl, pv_in (List.mem_of_getElem? (i := 114) (by decide +kernel)) rfl, by decide, by decide, by decide +kernel⟩
theorem okX12_nameOf : pvOk mX12_nameOf 0 := ⟨pv_in (List.mem_of_getElem? (i := 1751) (by decide +kernel)) rfl, pv_in (List.mem_of_getElem? (i := 114) (by decide +kernel)) rfl, by decide, by decide, by decide +kernel⟩
theorem okX12_w6 : pvOk mX12_w6 6 := ⟨pv_in (List.mem_of_getElem? (i := 1754) (by decide +kernel)) rfl, pv_in (List.mem_of_getElem? (i := 114) (by decide +kernel)) rfl, by decide, by decide, by decide +kernel⟩
theorem okX12_isBarred : pvOk mX12_isBarred 1 := ⟨pv_in (List.mem_of_getElem? (i := 1758) (by decide +kernel)) rfl, pv_in (List.mem_of_getElem? (i := 114) (by decide +kernel)) rfl, by decide, by decide, by decide +kernel⟩
theorem okX12_either : pvOk mX12_either 0 := ⟨pv_in (List.mem_of_getElem? (i := 1762) (by decide +kernel)) rfl, pv_in (List.mem_of_getElem? (i := 114) (by decide +kernel)) rfl, by decide, by decide, by decide +kernel⟩
theorem okX12_ask : pvOk mX12_ask 0 := ⟨pv_in (List.mem_of_getElem? (i := 1766) (by decide +kernel)) rfl, pv_in (List.mem_of_getElem? (i := 114) (by decide +kernel)) rfl, by decide, by decide, by decide +kernel⟩
theorem okX12_compareOf : pvOk mX12_compareOf 0 := ⟨pv_in (List.mem_of_getElem? (i := 1770) (by decide +kernel)) rfl, pv_in (List.mem_of_getElem? (i := 114) (by decide +kernel)) rfl, by decide, by decide, by decide +kernel⟩
theorem okX12_fault : pvOk mX12_fault 1 := ⟨pv_in (List.mem_of_getElem? (i := 1775) (by decide +kernel)) rfl, pv_in (List.mem_of_getElem? (i := 114) (by decide +kernel)) rfl, by decide, by decide, by decide +kernel⟩
theorem okX12_force : pvOk mX12_force 3 := ⟨pv_in (List.mem_of_getElem? (i := 1779) (by decide +kernel)) rfl, pv_in (List.mem_of_getElem? (i := 114) (by decide +kernel)) rfl, by decide, by decide, by decide +kernel⟩
theorem okX12_by : pvOk mX12_by 3 := ⟨pv_in (List.mem_of_getElem? (i := 1783) (by decide +kernel)) rfl, pv_in (List.mem_of_getElem? (i := 114) (by decide +kernel)) rfl, by decide, by decide, by decide +kernel⟩
theorem okX12_shutOf : pvOk mX12_shutOf 2 := ⟨pv_in (List.mem_of_getElem? (i := 1787) (by decide +kernel)) rfl, pv_in (List.mem_of_getElem? (i := 114) (by decide +kernel)) rfl, by decide, by decide, by decide +kernel⟩
theorem okX12_clauseFor : pvOk mX12_clauseFor 2 := ⟨pv_in (List.mem_of_getElem? (i := 1791) (by decide +kernel)) rfl, pv_in (List.mem_of_getElem? (i := 114) (by decide +kernel)) rfl, by decide, by decide, by decide +kernel⟩
theorem okX12_actFor : pvOk mX12_actFor 2 := ⟨pv_in (List.mem_of_getElem? (i := 1795) (by decide +kernel)) rfl, pv_in (List.mem_of_getElem? (i := 114) (by decide +kernel)) rfl, by decide, by decide, by decide +kernel⟩
theorem okX12_clauseOf : pvOk mX12_clauseOf 3 := ⟨pv_in (List.mem_of_getElem? (i := 1799) (by decide +kernel)) rfl, pv_in (List.mem_of_getElem? (i := 114) (by decide +kernel)) rfl, by decide, by decide, by decide +kernel⟩
theorem okX12_isShut : pvOk mX12_isShut 3 := ⟨pv_in (List.mem_of_getElem? (i := 1803) (by decide +kernel)) rfl, pv_in (List.mem_of_getElem? (i := 114) (by decide +kernel)) rfl, by decide, by decide, by decide +kernel⟩
theorem okX12_name : pvOk mX12_name 2 := ⟨pv_in (List.mem_of_getElem? (i := 1807) (by decide +kernel)) rfl, pv_in (List.mem_of_getElem? (i := 114) (by decide +kernel)) rfl, by decide, by decide, by decide +kernel⟩
theorem okX12_peopleOf : pvOk mX12_peopleOf 1 := ⟨pv_in (List.mem_of_getElem? (i := 1811) (by decide +kernel)) rfl, pv_in (List.mem_of_getElem? (i := 114) (by decide +kernel)) rfl, by decide, by decide, by decide +kernel⟩
theorem okX12_work : pvOk mX12_work 1 := ⟨pv_in (List.mem_of_getElem? (i := 1815) (by decide +kernel)) rfl, pv_in (List.mem_of_getElem? (i := 114) (by decide +kernel)) rfl, by decide, by decide, by decide +kernel⟩
theorem okX12_two : pvOk mX12_two 3 := ⟨pv_in (List.mem_of_getElem? (i := 1818) (by decide +kernel)) rfl, pv_in (List.mem_of_getElem? (i := 114) (by decide +kernel)) rfl, by decide, by decide, by decide +kernel⟩
theorem okX12_clip : pvOk mX12_clip 1 := ⟨pv_in (List.mem_of_getElem? (i := 1821) (by decide +kernel)) rfl, pv_in (List.mem_of_getElem? (i := 114) (by decide +kernel)) rfl, by decide, by decide, by decide +kernel⟩
theorem okX12_isAsked : pvOk mX12_isAsked 3 := ⟨pv_in (List.mem_of_getElem? (i := 1826) (by decide +kernel)) rfl, pv_in (List.mem_of_getElem? (i := 114) (by decide +kernel)) rfl, by decide, by decide, by decide +kernel⟩
theorem okX12_worthOf : pvOk mX12_worthOf 3 := ⟨pv_in (List.mem_of_getElem? (i := 1830) (by decide +kernel)) rfl, pv_in (List.mem_of_getElem? (i := 114) (by decide +kernel)) rfl, by decide, by decide, by decide +kernel⟩
theorem okX12_whose : pvOk mX12_whose 1 := ⟨pv_in (List.mem_of_getElem? (i := 1834) (by decide +kernel)) rfl, pv_in (List.mem_of_getElem? (i := 114) (by decide +kernel)) rfl, by decide, by decide, by decide +kernel⟩
theorem okX12_vote : pvOk mX12_vote 2 := ⟨pv_in (List.mem_of_getElem? (i := 1838) (by decide +kernel)) rfl, pv_in (List.mem_of_getElem? (i := 114) (by decide +kernel)) rfl, by decide, by decide, by decide +kernel⟩
theorem okX12_count : pvOk mX12_count 1 := ⟨pv_in (List.mem_of_getElem? (i := 1842) (by decide +kernel)) rfl, pv_in (List.mem_of_getElem? (i := 114) (by decide +kernel)) rfl, by decide, by decide, by decide +kernel⟩
theorem okX12_gift : pvOk mX12_gift 0 := ⟨pv_in (List.mem_of_getElem? (i := 1846) (by decide +kernel)) rfl, pv_in (List.mem_of_getElem? (i := 114) (by decide +kernel)) rfl, by decide, by decide, by decide +kernel⟩
theorem okX12_place : pvOk mX12_place 2 := ⟨pv_in (List.mem_of_getElem? (i := 1850) (by decide +kernel)) rfl, pv_in (List.mem_of_getElem? (i := 114) (by decide +kernel)) rfl, by decide, by decide, by decide +kernel⟩
theorem okX12_best : pvOk mX12_best 3 := ⟨pv_in (List.mem_of_getElem? (i := 1854) (by decide +kernel)) rfl, pv_in (List.mem_of_getElem? (i := 114) (by decide +kernel)) rfl, by decide, by decide, by decide +kernel⟩
theorem okX12_image : pvOk mX12_image 0 := ⟨pv_in (List.mem_of_getElem? (i := 1859) (by decide +kernel)) rfl, pv_in (List.mem_of_getElem? (i := 114) (by decide +kernel)) rfl, by decide, by decide, by decide +kernel⟩
theorem okX12_back : pvOk mX12_back 0 := ⟨pv_in (List.mem_of_getElem? (i := 1863) (by decide +kernel)) rfl, pv_in (List.mem_of_getElem? (i := 114) (by decide +kernel)) rfl, by decide, by decide, by decide +kernel⟩
theorem okX12_about : pvOk mX12_about 1 := ⟨pv_in (List.mem_of_getElem? (i := 1867) (by decide +kernel)) rfl, pv_in (List.mem_of_getElem? (i := 114) (by decide +kernel)) rfl, by decide, by decide, by decide +kernel⟩
theorem lkL_15 : pvLI RL 15 mX11_init := ⟨pv_in (List.mem_of_getElem? (i := 124) (by decide +kernel)) rfl, pv_in (List.mem_of_getElem? (i := 125) (by decide +kernel)) rfl, rfl⟩
theorem lkX11_9 : pvLS RX11 9 mJ9_min_7cf53 := ⟨pv_in (List.mem_of_getElem? (i := 132) (by decide +kernel)) rfl, pv_in (List.mem_of_getElem? (i := 133) (by decide +kernel)) rfl⟩
theorem lkX11_15 : pvLS RX11 15 mJ9_max_7cf53 := ⟨pv_in (List.mem_of_getElem? (i := 135) (by decide +kernel)) rfl, pv_in (List.mem_of_getElem? (i := 136) (by decide +kernel)) rfl⟩
theorem lkX11_18 : pvLI RX11 18 mX2_init := ⟨pv_in (List.mem_of_getElem? (i := 138) (by decide +kernel)) rfl, pv_in (List.mem_of_getElem? (i := 139) (by decide +kernel)) rfl, rfl⟩
theorem lkX11_29 : pvLI RX11 29 mX10_init := ⟨pv_in (List.mem_of_getElem? (i := 168) (by decide +kernel)) rfl, pv_in (List.mem_of_getElem? (i := 169) (by decide +kernel)) rfl, rfl⟩
theorem lkX10_15 : pvLI RX10 15 mX3_init := ⟨pv_in (List.mem_of_getElem? (i := 174) (by decide +kernel)) rfl, pv_in (List.mem_of_getElem? (i := 175) (by decide +kernel)) rfl, rfl⟩
theorem lkL_21 : pvLV RL 21 mX11_cell := ⟨pv_in (List.mem_of_getElem? (i := 641) (by decide +kernel)) rfl, pv_in (List.mem_of_getElem? (i := 642) (by decide +kernel)) rfl, pv_in (List.mem_of_getElem? (i := 643) (by decide +kernel)) rfl⟩
theorem lkX11_81 : pvLV RX11 81 mX2_has := ⟨pv_in (List.mem_of_getElem? (i := 645) (by decide +kernel)) rfl, pv_in (List.mem_of_getElem? (i := 646) (by decide +kernel)) rfl, pv_in (List.mem_of_getElem? (i := 647) (by decide +kernel)) rfl⟩
theorem lkX11_85 : pvLS RX11 85 mX11_within := ⟨pv_in (List.mem_of_getElem? (i := 649) (by decide +kernel)) rfl, pv_in (List.mem_of_getElem? (i := 650) (by decide +kernel)) rfl⟩
theorem lkX11_93 : pvLV RX11 93 mX3_tell := ⟨pv_in (List.mem_of_getElem? (i := 652) (by decide +kernel)) rfl, pv_in (List.mem_of_getElem? (i := 653) (by decide +kernel)) rfl, pv_in (List.mem_of_getElem? (i := 654) (by decide +kernel)) rfl⟩
theorem lkX11_99 : pvLV RX11 99 mX11_changedFrom := ⟨pv_in (List.mem_of_getElem? (i := 660) (by decide +kernel)) rfl, pv_in (List.mem_of_getElem? (i := 662) (by decide +kernel)) rfl, pv_in (List.mem_of_getElem? (i := 0) (by decide +kernel)) rfl⟩
theorem lkX11_431 : pvLV RX11 431 mX1_forgetFrom := ⟨pv_in (List.mem_of_getElem? (i := 664) (by decide +kernel)) rfl, pv_in (List.mem_of_getElem? (i := 665) (by decide +kernel)) rfl, pv_in (List.mem_of_getElem? (i := 666) (by decide +kernel)) rfl⟩
theorem lkX1_48 : pvLS RX1 48 mJ9_min_7cf53 := ⟨pv_in (List.mem_of_getElem? (i := 668) (by decide +kernel)) rfl, pv_in (List.mem_of_getElem? (i := 133) (by decide +kernel)) rfl⟩
theorem lkX11_184 : pvLV RX11 184 mX8_forget := ⟨pv_in (List.mem_of_getElem? (i := 669) (by decide +kernel)) rfl, pv_in (List.mem_of_getElem? (i := 670) (by decide +kernel)) rfl, pv_in (List.mem_of_getElem? (i := 671) (by decide +kernel)) rfl⟩
theorem lkL_25 : pvLV RL 25 mX11_rules := ⟨pv_in (List.mem_of_getElem? (i := 673) (by decide +kernel)) rfl, pv_in (List.mem_of_getElem? (i := 674) (by decide +kernel)) rfl, pv_in (List.mem_of_getElem? (i := 675) (by decide +kernel)) rfl⟩
theorem lkL_29 : pvLV RL 29 mX11_hole := ⟨pv_in (List.mem_of_getElem? (i := 677) (by decide +kernel)) rfl, pv_in (List.mem_of_getElem? (i := 678) (by decide +kernel)) rfl, pv_in (List.mem_of_getElem? (i := 679) (by decide +kernel)) rfl⟩
theorem lkX11_121 : pvLV RX11 121 mX9_bore := ⟨pv_in (List.mem_of_getElem? (i := 681) (by decide +kernel)) rfl, pv_in (List.mem_of_getElem? (i := 682) (by decide +kernel)) rfl, pv_in (List.mem_of_getElem? (i := 683) (by decide +kernel)) rfl⟩
theorem lkX9_56 : pvLV RX9 56 mX9_noteHoles := ⟨pv_in (List.mem_of_getElem? (i := 685) (by decide +kernel)) rfl, pv_in (List.mem_of_getElem? (i := 687) (by decide +kernel)) rfl, pv_in (List.mem_of_getElem? (i := 1) (by decide +kernel)) rfl⟩
theorem lkX9_60 : pvLV RX9 60 mX9_openHoles := ⟨pv_in (List.mem_of_getElem? (i := 689) (by decide +kernel)) rfl, pv_in (List.mem_of_getElem? (i := 690) (by decide +kernel)) rfl, pv_in (List.mem_of_getElem? (i := 691) (by decide +kernel)) rfl⟩
theorem lkL_34 : pvLV RL 34 mX11_plug := ⟨pv_in (List.mem_of_getElem? (i := 694) (by decide +kernel)) rfl, pv_in (List.mem_of_getElem? (i := 695) (by decide +kernel)) rfl, pv_in (List.mem_of_getElem? (i := 696) (by decide +kernel)) rfl⟩
theorem lkX11_124 : pvLV RX11 124 mX9_hasHole := ⟨pv_in (List.mem_of_getElem? (i := 698) (by decide +kernel)) rfl, pv_in (List.mem_of_getElem? (i := 699) (by decide +kernel)) rfl, pv_in (List.mem_of_getElem? (i := 700) (by decide +kernel)) rfl⟩
theorem lkX11_130 : pvLV RX11 130 mX9_close := ⟨pv_in (List.mem_of_getElem? (i := 702) (by decide +kernel)) rfl, pv_in (List.mem_of_getElem? (i := 703) (by decide +kernel)) rfl, pv_in (List.mem_of_getElem? (i := 704) (by decide +kernel)) rfl⟩
theorem lkL_39 : pvLV RL 39 mX11_pour := ⟨pv_in (List.mem_of_getElem? (i := 706) (by decide +kernel)) rfl, pv_in (List.mem_of_getElem? (i := 707) (by decide +kernel)) rfl, pv_in (List.mem_of_getElem? (i := 708) (by decide +kernel)) rfl⟩
theorem lkX11_133 : pvLV RX11 133 mX11_isRoom := ⟨pv_in (List.mem_of_getElem? (i := 710) (by decide +kernel)) rfl, pv_in (List.mem_of_getElem? (i := 712) (by decide +kernel)) rfl, pv_in (List.mem_of_getElem? (i := 2) (by decide +kernel)) rfl⟩
theorem lkX11_139 : pvLV RX11 139 mX3_runSand := ⟨pv_in (List.mem_of_getElem? (i := 714) (by decide +kernel)) rfl, pv_in (List.mem_of_getElem? (i := 715) (by decide +kernel)) rfl, pv_in (List.mem_of_getElem? (i := 716) (by decide +kernel)) rfl⟩
theorem lkX3_61 : pvLV RX3 61 mX3_fillLayer := ⟨pv_in (List.mem_of_getElem? (i := 718) (by decide +kernel)) rfl, pv_in (List.mem_of_getElem? (i := 720) (by decide +kernel)) rfl, pv_in (List.mem_of_getElem? (i := 3) (by decide +kernel)) rfl⟩
theorem lkX11_426 : pvLS RX11 426 mJ13_bitCount_95d88 := ⟨pv_in (List.mem_of_getElem? (i := 725) (by decide +kernel)) rfl, pv_in (List.mem_of_getElem? (i := 726) (by decide +kernel)) rfl⟩
theorem lkX3_79 : pvLS RX3 79 mJ9_min_7cf53 := ⟨pv_in (List.mem_of_getElem? (i := 731) (by decide +kernel)) rfl, pv_in (List.mem_of_getElem? (i := 133) (by decide +kernel)) rfl⟩
theorem lkX3_65 : pvLV RX3 65 mX2_spread := ⟨pv_in (List.mem_of_getElem? (i := 732) (by decide +kernel)) rfl, pv_in (List.mem_of_getElem? (i := 733) (by decide +kernel)) rfl, pv_in (List.mem_of_getElem? (i := 734) (by decide +kernel)) rfl⟩
theorem lkX3_71 : pvLV RX3 71 mX3_noteFull := ⟨pv_in (List.mem_of_getElem? (i := 736) (by decide +kernel)) rfl, pv_in (List.mem_of_getElem? (i := 738) (by decide +kernel)) rfl, pv_in (List.mem_of_getElem? (i := 4) (by decide +kernel)) rfl⟩
theorem lkL_44 : pvLV RL 44 mX11_fill := ⟨pv_in (List.mem_of_getElem? (i := 740) (by decide +kernel)) rfl, pv_in (List.mem_of_getElem? (i := 741) (by decide +kernel)) rfl, pv_in (List.mem_of_getElem? (i := 742) (by decide +kernel)) rfl⟩
theorem lkL_48 : pvLV RL 48 mX11_trench := ⟨pv_in (List.mem_of_getElem? (i := 744) (by decide +kernel)) rfl, pv_in (List.mem_of_getElem? (i := 745) (by decide +kernel)) rfl, pv_in (List.mem_of_getElem? (i := 746) (by decide +kernel)) rfl⟩
theorem lkX11_146 : pvLV RX11 146 mX2_holds := ⟨pv_in (List.mem_of_getElem? (i := 748) (by decide +kernel)) rfl, pv_in (List.mem_of_getElem? (i := 749) (by decide +kernel)) rfl, pv_in (List.mem_of_getElem? (i := 750) (by decide +kernel)) rfl⟩
theorem lkX2_31 : pvLS RX2 31 mJ9_max_7cf53 := ⟨pv_in (List.mem_of_getElem? (i := 752) (by decide +kernel)) rfl, pv_in (List.mem_of_getElem? (i := 136) (by decide +kernel)) rfl⟩
theorem lkX11_152 : pvLV RX11 152 mX2_step := ⟨pv_in (List.mem_of_getElem? (i := 753) (by decide +kernel)) rfl, pv_in (List.mem_of_getElem? (i := 754) (by decide +kernel)) rfl, pv_in (List.mem_of_getElem? (i := 755) (by decide +kernel)) rfl⟩
theorem lkX11_156 : pvLV RX11 156 mX9_dig := ⟨pv_in (List.mem_of_getElem? (i := 757) (by decide +kernel)) rfl, pv_in (List.mem_of_getElem? (i := 758) (by decide +kernel)) rfl, pv_in (List.mem_of_getElem? (i := 759) (by decide +kernel)) rfl⟩
theorem lkX9_68 : pvLV RX9 68 mX9_weekOfCut := ⟨pv_in (List.mem_of_getElem? (i := 761) (by decide +kernel)) rfl, pv_in (List.mem_of_getElem? (i := 762) (by decide +kernel)) rfl, pv_in (List.mem_of_getElem? (i := 763) (by decide +kernel)) rfl⟩
theorem lkX9_75 : pvLS RX9 75 mJ9_max_7cf53 := ⟨pv_in (List.mem_of_getElem? (i := 765) (by decide +kernel)) rfl, pv_in (List.mem_of_getElem? (i := 136) (by decide +kernel)) rfl⟩
theorem lkX9_72 : pvLV RX9 72 mX9_cellOfCut := ⟨pv_in (List.mem_of_getElem? (i := 766) (by decide +kernel)) rfl, pv_in (List.mem_of_getElem? (i := 767) (by decide +kernel)) rfl, pv_in (List.mem_of_getElem? (i := 768) (by decide +kernel)) rfl⟩
theorem lkL_53 : pvLV RL 53 mX11_state := ⟨pv_in (List.mem_of_getElem? (i := 770) (by decide +kernel)) rfl, pv_in (List.mem_of_getElem? (i := 771) (by decide +kernel)) rfl, pv_in (List.mem_of_getElem? (i := 772) (by decide +kernel)) rfl⟩
theorem lkX11_160 : pvLS RX11 160 mX11_isWeek := ⟨pv_in (List.mem_of_getElem? (i := 774) (by decide +kernel)) rfl, pv_in (List.mem_of_getElem? (i := 775) (by decide +kernel)) rfl⟩
theorem lkX11_175 : pvLV RX11 175 mX4_addState := ⟨pv_in (List.mem_of_getElem? (i := 777) (by decide +kernel)) rfl, pv_in (List.mem_of_getElem? (i := 778) (by decide +kernel)) rfl, pv_in (List.mem_of_getElem? (i := 779) (by decide +kernel)) rfl⟩
theorem lkX11_178 : pvLV RX11 178 mX1_tell := ⟨pv_in (List.mem_of_getElem? (i := 781) (by decide +kernel)) rfl, pv_in (List.mem_of_getElem? (i := 782) (by decide +kernel)) rfl, pv_in (List.mem_of_getElem? (i := 783) (by decide +kernel)) rfl⟩
theorem lkX1_41 : pvLV RX1 41 mX1_forgetFrom := ⟨pv_in (List.mem_of_getElem? (i := 785) (by decide +kernel)) rfl, pv_in (List.mem_of_getElem? (i := 665) (by decide +kernel)) rfl, pv_in (List.mem_of_getElem? (i := 666) (by decide +kernel)) rfl⟩
theorem lkL_57 : pvLV RL 57 mX11_burns := ⟨pv_in (List.mem_of_getElem? (i := 786) (by decide +kernel)) rfl, pv_in (List.mem_of_getElem? (i := 787) (by decide +kernel)) rfl, pv_in (List.mem_of_getElem? (i := 788) (by decide +kernel)) rfl⟩
theorem lkX11_189 : pvLV RX11 189 mX11_hasState := ⟨pv_in (List.mem_of_getElem? (i := 790) (by decide +kernel)) rfl, pv_in (List.mem_of_getElem? (i := 792) (by decide +kernel)) rfl, pv_in (List.mem_of_getElem? (i := 5) (by decide +kernel)) rfl⟩
theorem lkX11_192 : pvLV RX11 192 mX1_standAt := ⟨pv_in (List.mem_of_getElem? (i := 794) (by decide +kernel)) rfl, pv_in (List.mem_of_getElem? (i := 795) (by decide +kernel)) rfl, pv_in (List.mem_of_getElem? (i := 796) (by decide +kernel)) rfl⟩
theorem lkX1_80 : pvLV RX1 80 mX1_begin := ⟨pv_in (List.mem_of_getElem? (i := 798) (by decide +kernel)) rfl, pv_in (List.mem_of_getElem? (i := 800) (by decide +kernel)) rfl, pv_in (List.mem_of_getElem? (i := 6) (by decide +kernel)) rfl⟩
theorem lkX1_99 : pvLV RX1 99 mX1_settle := ⟨pv_in (List.mem_of_getElem? (i := 805) (by decide +kernel)) rfl, pv_in (List.mem_of_getElem? (i := 807) (by decide +kernel)) rfl, pv_in (List.mem_of_getElem? (i := 7) (by decide +kernel)) rfl⟩
theorem lkX1_73 : pvLV RX1 73 mX1_note := ⟨pv_in (List.mem_of_getElem? (i := 812) (by decide +kernel)) rfl, pv_in (List.mem_of_getElem? (i := 814) (by decide +kernel)) rfl, pv_in (List.mem_of_getElem? (i := 8) (by decide +kernel)) rfl⟩
theorem lkX1_121 : pvLS RX1 121 mJ9_max_7cf53 := ⟨pv_in (List.mem_of_getElem? (i := 816) (by decide +kernel)) rfl, pv_in (List.mem_of_getElem? (i := 136) (by decide +kernel)) rfl⟩
theorem lkX1_84 : pvLV RX1 84 mX1_pass := ⟨pv_in (List.mem_of_getElem? (i := 817) (by decide +kernel)) rfl, pv_in (List.mem_of_getElem? (i := 819) (by decide +kernel)) rfl, pv_in (List.mem_of_getElem? (i := 9) (by decide +kernel)) rfl⟩
theorem lkX1_153 : pvLV RX1 153 mX1_air := ⟨pv_in (List.mem_of_getElem? (i := 821) (by decide +kernel)) rfl, pv_in (List.mem_of_getElem? (i := 822) (by decide +kernel)) rfl, pv_in (List.mem_of_getElem? (i := 823) (by decide +kernel)) rfl⟩
theorem lkX1_140 : pvLV RX1 140 mX9_openHoles := ⟨pv_in (List.mem_of_getElem? (i := 825) (by decide +kernel)) rfl, pv_in (List.mem_of_getElem? (i := 690) (by decide +kernel)) rfl, pv_in (List.mem_of_getElem? (i := 691) (by decide +kernel)) rfl⟩
theorem lkX1_147 : pvLV RX1 147 mX2_spread := ⟨pv_in (List.mem_of_getElem? (i := 826) (by decide +kernel)) rfl, pv_in (List.mem_of_getElem? (i := 733) (by decide +kernel)) rfl, pv_in (List.mem_of_getElem? (i := 734) (by decide +kernel)) rfl⟩
theorem lkX1_157 : pvLV RX1 157 mX1_warmUp := ⟨pv_in (List.mem_of_getElem? (i := 827) (by decide +kernel)) rfl, pv_in (List.mem_of_getElem? (i := 829) (by decide +kernel)) rfl, pv_in (List.mem_of_getElem? (i := 10) (by decide +kernel)) rfl⟩
theorem lkX1_172 : pvLS RX1 172 mJ13_bitCount_95d88 := ⟨pv_in (List.mem_of_getElem? (i := 831) (by decide +kernel)) rfl, pv_in (List.mem_of_getElem? (i := 726) (by decide +kernel)) rfl⟩
theorem lkX1_161 : pvLV RX1 161 mX1_coolDown := ⟨pv_in (List.mem_of_getElem? (i := 832) (by decide +kernel)) rfl, pv_in (List.mem_of_getElem? (i := 834) (by decide +kernel)) rfl, pv_in (List.mem_of_getElem? (i := 11) (by decide +kernel)) rfl⟩
theorem lkX1_168 : pvLV RX1 168 mX1_burnDown := ⟨pv_in (List.mem_of_getElem? (i := 836) (by decide +kernel)) rfl, pv_in (List.mem_of_getElem? (i := 838) (by decide +kernel)) rfl, pv_in (List.mem_of_getElem? (i := 12) (by decide +kernel)) rfl⟩
theorem lkX11_202 : pvLV RX11 202 mX1_lookAt := ⟨pv_in (List.mem_of_getElem? (i := 840) (by decide +kernel)) rfl, pv_in (List.mem_of_getElem? (i := 841) (by decide +kernel)) rfl, pv_in (List.mem_of_getElem? (i := 842) (by decide +kernel)) rfl⟩
theorem lkX1_76 : pvLV RX1 76 mX1_standAt := ⟨pv_in (List.mem_of_getElem? (i := 844) (by decide +kernel)) rfl, pv_in (List.mem_of_getElem? (i := 795) (by decide +kernel)) rfl, pv_in (List.mem_of_getElem? (i := 796) (by decide +kernel)) rfl⟩
theorem lkX11_205 : pvLV RX11 205 mX1_air := ⟨pv_in (List.mem_of_getElem? (i := 845) (by decide +kernel)) rfl, pv_in (List.mem_of_getElem? (i := 822) (by decide +kernel)) rfl, pv_in (List.mem_of_getElem? (i := 823) (by decide +kernel)) rfl⟩
theorem lkX11_209 : pvLS RX11 209 mX11_has := ⟨pv_in (List.mem_of_getElem? (i := 846) (by decide +kernel)) rfl, pv_in (List.mem_of_getElem? (i := 847) (by decide +kernel)) rfl⟩
theorem lkL_61 : pvLV RL 61 mX11_lost := ⟨pv_in (List.mem_of_getElem? (i := 849) (by decide +kernel)) rfl, pv_in (List.mem_of_getElem? (i := 850) (by decide +kernel)) rfl, pv_in (List.mem_of_getElem? (i := 851) (by decide +kernel)) rfl⟩
theorem lkX11_219 : pvLS RX11 219 mX11_lostBy := ⟨pv_in (List.mem_of_getElem? (i := 853) (by decide +kernel)) rfl, pv_in (List.mem_of_getElem? (i := 854) (by decide +kernel)) rfl⟩
theorem lkL_65 : pvLV RL 65 mX11_fed := ⟨pv_in (List.mem_of_getElem? (i := 856) (by decide +kernel)) rfl, pv_in (List.mem_of_getElem? (i := 857) (by decide +kernel)) rfl, pv_in (List.mem_of_getElem? (i := 858) (by decide +kernel)) rfl⟩
theorem lkL_70 : pvLV RL 70 mX11_inTime := ⟨pv_in (List.mem_of_getElem? (i := 860) (by decide +kernel)) rfl, pv_in (List.mem_of_getElem? (i := 861) (by decide +kernel)) rfl, pv_in (List.mem_of_getElem? (i := 862) (by decide +kernel)) rfl⟩
theorem lkX11_232 : pvLV RX11 232 mX11_cutsInTime := ⟨pv_in (List.mem_of_getElem? (i := 864) (by decide +kernel)) rfl, pv_in (List.mem_of_getElem? (i := 866) (by decide +kernel)) rfl, pv_in (List.mem_of_getElem? (i := 13) (by decide +kernel)) rfl⟩
theorem lkX11_437 : pvLV RX11 437 mX9_weekOfCut := ⟨pv_in (List.mem_of_getElem? (i := 868) (by decide +kernel)) rfl, pv_in (List.mem_of_getElem? (i := 762) (by decide +kernel)) rfl, pv_in (List.mem_of_getElem? (i := 763) (by decide +kernel)) rfl⟩
theorem lkX11_443 : pvLV RX11 443 mX9_cellOfCut := ⟨pv_in (List.mem_of_getElem? (i := 869) (by decide +kernel)) rfl, pv_in (List.mem_of_getElem? (i := 767) (by decide +kernel)) rfl, pv_in (List.mem_of_getElem? (i := 768) (by decide +kernel)) rfl⟩
theorem lkX11_236 : pvLV RX11 236 mX11_see := ⟨pv_in (List.mem_of_getElem? (i := 870) (by decide +kernel)) rfl, pv_in (List.mem_of_getElem? (i := 872) (by decide +kernel)) rfl, pv_in (List.mem_of_getElem? (i := 14) (by decide +kernel)) rfl⟩
theorem lkX11_239 : pvLV RX11 239 mX11_letNow := ⟨pv_in (List.mem_of_getElem? (i := 874) (by decide +kernel)) rfl, pv_in (List.mem_of_getElem? (i := 876) (by decide +kernel)) rfl, pv_in (List.mem_of_getElem? (i := 15) (by decide +kernel)) rfl⟩
theorem lkX11_268 : pvLV RX11 268 mX11_letAsKnown := ⟨pv_in (List.mem_of_getElem? (i := 878) (by decide +kernel)) rfl, pv_in (List.mem_of_getElem? (i := 880) (by decide +kernel)) rfl, pv_in (List.mem_of_getElem? (i := 16) (by decide +kernel)) rfl⟩
theorem lkX11_265 : pvLV RX11 265 mX11_isLet := ⟨pv_in (List.mem_of_getElem? (i := 882) (by decide +kernel)) rfl, pv_in (List.mem_of_getElem? (i := 884) (by decide +kernel)) rfl, pv_in (List.mem_of_getElem? (i := 17) (by decide +kernel)) rfl⟩
theorem lkX11_243 : pvLS RX11 243 mX11_isIn := ⟨pv_in (List.mem_of_getElem? (i := 886) (by decide +kernel)) rfl, pv_in (List.mem_of_getElem? (i := 887) (by decide +kernel)) rfl⟩
theorem lkX11_247 : pvLS RX11 247 mJ6_bitCount_0f7a4 := ⟨pv_in (List.mem_of_getElem? (i := 889) (by decide +kernel)) rfl, pv_in (List.mem_of_getElem? (i := 890) (by decide +kernel)) rfl⟩
theorem lkX11_252 : pvLS RX11 252 mX11_allOrSome := ⟨pv_in (List.mem_of_getElem? (i := 895) (by decide +kernel)) rfl, pv_in (List.mem_of_getElem? (i := 896) (by decide +kernel)) rfl⟩
theorem lkL_74 : pvLV RL 74 mX11_read := ⟨pv_in (List.mem_of_getElem? (i := 898) (by decide +kernel)) rfl, pv_in (List.mem_of_getElem? (i := 899) (by decide +kernel)) rfl, pv_in (List.mem_of_getElem? (i := 900) (by decide +kernel)) rfl⟩
theorem lkX11_258 : pvLV RX11 258 mX4_addReading := ⟨pv_in (List.mem_of_getElem? (i := 902) (by decide +kernel)) rfl, pv_in (List.mem_of_getElem? (i := 903) (by decide +kernel)) rfl, pv_in (List.mem_of_getElem? (i := 904) (by decide +kernel)) rfl⟩
theorem lkL_79 : pvLV RL 79 mX11_let := ⟨pv_in (List.mem_of_getElem? (i := 906) (by decide +kernel)) rfl, pv_in (List.mem_of_getElem? (i := 907) (by decide +kernel)) rfl, pv_in (List.mem_of_getElem? (i := 908) (by decide +kernel)) rfl⟩
theorem lkX11_262 : pvLS RX11 262 mX11_isKnown := ⟨pv_in (List.mem_of_getElem? (i := 910) (by decide +kernel)) rfl, pv_in (List.mem_of_getElem? (i := 911) (by decide +kernel)) rfl⟩
theorem lkL_83 : pvLV RL 83 mX11_span := ⟨pv_in (List.mem_of_getElem? (i := 913) (by decide +kernel)) rfl, pv_in (List.mem_of_getElem? (i := 914) (by decide +kernel)) rfl, pv_in (List.mem_of_getElem? (i := 915) (by decide +kernel)) rfl⟩
theorem lkX11_271 : pvLV RX11 271 mX11_howManyBurn := ⟨pv_in (List.mem_of_getElem? (i := 917) (by decide +kernel)) rfl, pv_in (List.mem_of_getElem? (i := 919) (by decide +kernel)) rfl, pv_in (List.mem_of_getElem? (i := 18) (by decide +kernel)) rfl⟩
theorem lkL_87 : pvLV RL 87 mX11_parts := ⟨pv_in (List.mem_of_getElem? (i := 921) (by decide +kernel)) rfl, pv_in (List.mem_of_getElem? (i := 922) (by decide +kernel)) rfl, pv_in (List.mem_of_getElem? (i := 923) (by decide +kernel)) rfl⟩
theorem lkL_91 : pvLV RL 91 mX11_house := ⟨pv_in (List.mem_of_getElem? (i := 925) (by decide +kernel)) rfl, pv_in (List.mem_of_getElem? (i := 926) (by decide +kernel)) rfl, pv_in (List.mem_of_getElem? (i := 927) (by decide +kernel)) rfl⟩
theorem lkX11_284 : pvLV RX11 284 mX7_addHouse := ⟨pv_in (List.mem_of_getElem? (i := 929) (by decide +kernel)) rfl, pv_in (List.mem_of_getElem? (i := 930) (by decide +kernel)) rfl, pv_in (List.mem_of_getElem? (i := 931) (by decide +kernel)) rfl⟩
theorem lkL_95 : pvLV RL 95 mX11_gas := ⟨pv_in (List.mem_of_getElem? (i := 933) (by decide +kernel)) rfl, pv_in (List.mem_of_getElem? (i := 934) (by decide +kernel)) rfl, pv_in (List.mem_of_getElem? (i := 935) (by decide +kernel)) rfl⟩
theorem lkX11_287 : pvLV RX11 287 mX7_hasHouse := ⟨pv_in (List.mem_of_getElem? (i := 937) (by decide +kernel)) rfl, pv_in (List.mem_of_getElem? (i := 938) (by decide +kernel)) rfl, pv_in (List.mem_of_getElem? (i := 939) (by decide +kernel)) rfl⟩
theorem lkX11_290 : pvLV RX11 290 mX11_gasOf := ⟨pv_in (List.mem_of_getElem? (i := 941) (by decide +kernel)) rfl, pv_in (List.mem_of_getElem? (i := 943) (by decide +kernel)) rfl, pv_in (List.mem_of_getElem? (i := 19) (by decide +kernel)) rfl⟩
theorem lkX11_464 : pvLV RX11 464 mX11_nearness := ⟨pv_in (List.mem_of_getElem? (i := 945) (by decide +kernel)) rfl, pv_in (List.mem_of_getElem? (i := 947) (by decide +kernel)) rfl, pv_in (List.mem_of_getElem? (i := 20) (by decide +kernel)) rfl⟩
theorem lkX11_468 : pvLS RX11 468 mX11_bit := ⟨pv_in (List.mem_of_getElem? (i := 949) (by decide +kernel)) rfl, pv_in (List.mem_of_getElem? (i := 657) (by decide +kernel)) rfl⟩
theorem lkX11_472 : pvLV RX11 472 mX2_spread := ⟨pv_in (List.mem_of_getElem? (i := 950) (by decide +kernel)) rfl, pv_in (List.mem_of_getElem? (i := 733) (by decide +kernel)) rfl, pv_in (List.mem_of_getElem? (i := 734) (by decide +kernel)) rfl⟩
theorem lkL_99 : pvLV RL 99 mX11_person := ⟨pv_in (List.mem_of_getElem? (i := 951) (by decide +kernel)) rfl, pv_in (List.mem_of_getElem? (i := 952) (by decide +kernel)) rfl, pv_in (List.mem_of_getElem? (i := 953) (by decide +kernel)) rfl⟩
theorem lkX11_297 : pvLV RX11 297 mX7_addPerson := ⟨pv_in (List.mem_of_getElem? (i := 955) (by decide +kernel)) rfl, pv_in (List.mem_of_getElem? (i := 956) (by decide +kernel)) rfl, pv_in (List.mem_of_getElem? (i := 957) (by decide +kernel)) rfl⟩
theorem lkL_103 : pvLV RL 103 mX11_hears := ⟨pv_in (List.mem_of_getElem? (i := 959) (by decide +kernel)) rfl, pv_in (List.mem_of_getElem? (i := 960) (by decide +kernel)) rfl, pv_in (List.mem_of_getElem? (i := 961) (by decide +kernel)) rfl⟩
theorem lkX11_300 : pvLV RX11 300 mX7_hasPerson := ⟨pv_in (List.mem_of_getElem? (i := 963) (by decide +kernel)) rfl, pv_in (List.mem_of_getElem? (i := 964) (by decide +kernel)) rfl, pv_in (List.mem_of_getElem? (i := 965) (by decide +kernel)) rfl⟩
theorem lkL_108 : pvLV RL 108 mX11_offer := ⟨pv_in (List.mem_of_getElem? (i := 967) (by decide +kernel)) rfl, pv_in (List.mem_of_getElem? (i := 968) (by decide +kernel)) rfl, pv_in (List.mem_of_getElem? (i := 969) (by decide +kernel)) rfl⟩
theorem lkX11_306 : pvLV RX11 306 mX11_isWeekToCome := ⟨pv_in (List.mem_of_getElem? (i := 971) (by decide +kernel)) rfl, pv_in (List.mem_of_getElem? (i := 973) (by decide +kernel)) rfl, pv_in (List.mem_of_getElem? (i := 21) (by decide +kernel)) rfl⟩
theorem lkL_112 : pvLV RL 112 mX11_pull := ⟨pv_in (List.mem_of_getElem? (i := 975) (by decide +kernel)) rfl, pv_in (List.mem_of_getElem? (i := 976) (by decide +kernel)) rfl, pv_in (List.mem_of_getElem? (i := 977) (by decide +kernel)) rfl⟩
theorem lkL_116 : pvLV RL 116 mX11_gone := ⟨pv_in (List.mem_of_getElem? (i := 979) (by decide +kernel)) rfl, pv_in (List.mem_of_getElem? (i := 980) (by decide +kernel)) rfl, pv_in (List.mem_of_getElem? (i := 981) (by decide +kernel)) rfl⟩
theorem lkL_120 : pvLV RL 120 mX11_weeks := ⟨pv_in (List.mem_of_getElem? (i := 983) (by decide +kernel)) rfl, pv_in (List.mem_of_getElem? (i := 984) (by decide +kernel)) rfl, pv_in (List.mem_of_getElem? (i := 985) (by decide +kernel)) rfl⟩
theorem lkX11_321 : pvLV RX11 321 mX7_takeOffers := ⟨pv_in (List.mem_of_getElem? (i := 987) (by decide +kernel)) rfl, pv_in (List.mem_of_getElem? (i := 988) (by decide +kernel)) rfl, pv_in (List.mem_of_getElem? (i := 989) (by decide +kernel)) rfl⟩
theorem lkX7_61 : pvLV RX7 61 mX7_isThere := ⟨pv_in (List.mem_of_getElem? (i := 991) (by decide +kernel)) rfl, pv_in (List.mem_of_getElem? (i := 992) (by decide +kernel)) rfl, pv_in (List.mem_of_getElem? (i := 993) (by decide +kernel)) rfl⟩
theorem lkX7_65 : pvLV RX7 65 mX7_takes := ⟨pv_in (List.mem_of_getElem? (i := 995) (by decide +kernel)) rfl, pv_in (List.mem_of_getElem? (i := 997) (by decide +kernel)) rfl, pv_in (List.mem_of_getElem? (i := 22) (by decide +kernel)) rfl⟩
theorem lkL_124 : pvLV RL 124 mX11_feed := ⟨pv_in (List.mem_of_getElem? (i := 999) (by decide +kernel)) rfl, pv_in (List.mem_of_getElem? (i := 1000) (by decide +kernel)) rfl, pv_in (List.mem_of_getElem? (i := 1001) (by decide +kernel)) rfl⟩
theorem lkX11_324 : pvLV RX11 324 mX6_hasRoom := ⟨pv_in (List.mem_of_getElem? (i := 1003) (by decide +kernel)) rfl, pv_in (List.mem_of_getElem? (i := 1004) (by decide +kernel)) rfl, pv_in (List.mem_of_getElem? (i := 1005) (by decide +kernel)) rfl⟩
theorem lkX11_327 : pvLV RX11 327 mX6_addWord := ⟨pv_in (List.mem_of_getElem? (i := 1007) (by decide +kernel)) rfl, pv_in (List.mem_of_getElem? (i := 1008) (by decide +kernel)) rfl, pv_in (List.mem_of_getElem? (i := 1009) (by decide +kernel)) rfl⟩
theorem lkL_129 : pvLV RL 129 mX11_end := ⟨pv_in (List.mem_of_getElem? (i := 1011) (by decide +kernel)) rfl, pv_in (List.mem_of_getElem? (i := 1012) (by decide +kernel)) rfl, pv_in (List.mem_of_getElem? (i := 1013) (by decide +kernel)) rfl⟩
theorem lkL_133 : pvLV RL 133 mX11_act := ⟨pv_in (List.mem_of_getElem? (i := 1015) (by decide +kernel)) rfl, pv_in (List.mem_of_getElem? (i := 1016) (by decide +kernel)) rfl, pv_in (List.mem_of_getElem? (i := 1017) (by decide +kernel)) rfl⟩
theorem lkX11_342 : pvLV RX11 342 mX6_readInto := ⟨pv_in (List.mem_of_getElem? (i := 1019) (by decide +kernel)) rfl, pv_in (List.mem_of_getElem? (i := 1020) (by decide +kernel)) rfl, pv_in (List.mem_of_getElem? (i := 1021) (by decide +kernel)) rfl⟩
theorem lkX6_31 : pvLV RX6 31 mX6_split := ⟨pv_in (List.mem_of_getElem? (i := 1023) (by decide +kernel)) rfl, pv_in (List.mem_of_getElem? (i := 1025) (by decide +kernel)) rfl, pv_in (List.mem_of_getElem? (i := 23) (by decide +kernel)) rfl⟩
theorem lkX6_58 : pvLV RX6 58 mX6_endOfToken := ⟨pv_in (List.mem_of_getElem? (i := 1027) (by decide +kernel)) rfl, pv_in (List.mem_of_getElem? (i := 1029) (by decide +kernel)) rfl, pv_in (List.mem_of_getElem? (i := 24) (by decide +kernel)) rfl⟩
theorem lkX6_66 : pvLS RX6 66 mX6_familyOf := ⟨pv_in (List.mem_of_getElem? (i := 1031) (by decide +kernel)) rfl, pv_in (List.mem_of_getElem? (i := 1032) (by decide +kernel)) rfl⟩
theorem lkX6_62 : pvLV RX6 62 mX6_tokenOf := ⟨pv_in (List.mem_of_getElem? (i := 1034) (by decide +kernel)) rfl, pv_in (List.mem_of_getElem? (i := 1036) (by decide +kernel)) rfl, pv_in (List.mem_of_getElem? (i := 25) (by decide +kernel)) rfl⟩
theorem lkX6_69 : pvLV RX6 69 mX6_wordOf := ⟨pv_in (List.mem_of_getElem? (i := 1038) (by decide +kernel)) rfl, pv_in (List.mem_of_getElem? (i := 1040) (by decide +kernel)) rfl, pv_in (List.mem_of_getElem? (i := 26) (by decide +kernel)) rfl⟩
theorem lkX6_82 : pvLV RX6 82 mJ0_length_8abf5 := ⟨pv_in (List.mem_of_getElem? (i := 1043) (by decide +kernel)) rfl, pv_in (List.mem_of_getElem? (i := 1044) (by decide +kernel)) rfl, pv_in (List.mem_of_getElem? (i := 1045) (by decide +kernel)) rfl⟩
theorem lkJ0_335 : pvLV RJ0 335 mJ0_coder_7d493 := ⟨pv_in (List.mem_of_getElem? (i := 1047) (by decide +kernel)) rfl, pv_in (List.mem_of_getElem? (i := 1048) (by decide +kernel)) rfl, pv_in (List.mem_of_getElem? (i := 1049) (by decide +kernel)) rfl⟩
theorem lkX6_87 : pvLV RX6 87 mJ0_charAt_5068e := ⟨pv_in (List.mem_of_getElem? (i := 1053) (by decide +kernel)) rfl, pv_in (List.mem_of_getElem? (i := 1054) (by decide +kernel)) rfl, pv_in (List.mem_of_getElem? (i := 1055) (by decide +kernel)) rfl⟩
theorem lkJ0_492 : pvLV RJ0 492 mJ0_isLatin1_aae02 := ⟨pv_in (List.mem_of_getElem? (i := 1057) (by decide +kernel)) rfl, pv_in (List.mem_of_getElem? (i := 1058) (by decide +kernel)) rfl, pv_in (List.mem_of_getElem? (i := 1059) (by decide +kernel)) rfl⟩
theorem lkJ0_495 : pvLS RJ0 495 mJ1_charAt_3b067 := ⟨pv_in (List.mem_of_getElem? (i := 1061) (by decide +kernel)) rfl, pv_in (List.mem_of_getElem? (i := 1062) (by decide +kernel)) rfl⟩
theorem lkJ1_9 : pvLS RJ1 9 mJ0_checkIndex_df160 := ⟨pv_in (List.mem_of_getElem? (i := 1064) (by decide +kernel)) rfl, pv_in (List.mem_of_getElem? (i := 1065) (by decide +kernel)) rfl⟩
theorem lkJ0_1059 : pvLS RJ0 1059 mJ3_checkIndex_8e157 := ⟨pv_in (List.mem_of_getElem? (i := 1069) (by decide +kernel)) rfl, pv_in (List.mem_of_getElem? (i := 1070) (by decide +kernel)) rfl⟩
theorem lkJ0_498 : pvLS RJ0 498 mJ2_charAt_3b067 := ⟨pv_in (List.mem_of_getElem? (i := 1072) (by decide +kernel)) rfl, pv_in (List.mem_of_getElem? (i := 1073) (by decide +kernel)) rfl⟩
theorem lkJ2_67 : pvLS RJ2 67 mJ2_checkIndex_2214a := ⟨pv_in (List.mem_of_getElem? (i := 1075) (by decide +kernel)) rfl, pv_in (List.mem_of_getElem? (i := 1076) (by decide +kernel)) rfl⟩
theorem lkJ2_48 : pvLS RJ2 48 mJ2_length_9d52b := ⟨pv_in (List.mem_of_getElem? (i := 1078) (by decide +kernel)) rfl, pv_in (List.mem_of_getElem? (i := 1079) (by decide +kernel)) rfl⟩
theorem lkJ2_414 : pvLS RJ2 414 mJ0_checkIndex_df160 := ⟨pv_in (List.mem_of_getElem? (i := 1081) (by decide +kernel)) rfl, pv_in (List.mem_of_getElem? (i := 1065) (by decide +kernel)) rfl⟩
theorem lkJ2_71 : pvLS RJ2 71 mJ2_getChar_3b067 := ⟨pv_in (List.mem_of_getElem? (i := 1082) (by decide +kernel)) rfl, pv_in (List.mem_of_getElem? (i := 1083) (by decide +kernel)) rfl⟩
theorem lkX6_91 : pvLV RX6 91 mX6_isWord := ⟨pv_in (List.mem_of_getElem? (i := 1091) (by decide +kernel)) rfl, pv_in (List.mem_of_getElem? (i := 1093) (by decide +kernel)) rfl, pv_in (List.mem_of_getElem? (i := 27) (by decide +kernel)) rfl⟩
theorem lkX6_72 : pvLV RX6 72 mX6_numberOf := ⟨pv_in (List.mem_of_getElem? (i := 1095) (by decide +kernel)) rfl, pv_in (List.mem_of_getElem? (i := 1097) (by decide +kernel)) rfl, pv_in (List.mem_of_getElem? (i := 28) (by decide +kernel)) rfl⟩
theorem lkX6_75 : pvLS RX6 75 mJ9_min_7cf53 := ⟨pv_in (List.mem_of_getElem? (i := 1099) (by decide +kernel)) rfl, pv_in (List.mem_of_getElem? (i := 133) (by decide +kernel)) rfl⟩
theorem lkX6_41 : pvLV RX6 41 mX0_clear := ⟨pv_in (List.mem_of_getElem? (i := 1100) (by decide +kernel)) rfl, pv_in (List.mem_of_getElem? (i := 1101) (by decide +kernel)) rfl, pv_in (List.mem_of_getElem? (i := 1102) (by decide +kernel)) rfl⟩
theorem lkX6_52 : pvLV RX6 52 mX6_readClause := ⟨pv_in (List.mem_of_getElem? (i := 1104) (by decide +kernel)) rfl, pv_in (List.mem_of_getElem? (i := 1106) (by decide +kernel)) rfl, pv_in (List.mem_of_getElem? (i := 29) (by decide +kernel)) rfl⟩
theorem lkX6_98 : pvLV RX6 98 mX6_refuse := ⟨pv_in (List.mem_of_getElem? (i := 1108) (by decide +kernel)) rfl, pv_in (List.mem_of_getElem? (i := 1110) (by decide +kernel)) rfl, pv_in (List.mem_of_getElem? (i := 30) (by decide +kernel)) rfl⟩
theorem lkX6_109 : pvLV RX6 109 mX0_addClause := ⟨pv_in (List.mem_of_getElem? (i := 1113) (by decide +kernel)) rfl, pv_in (List.mem_of_getElem? (i := 1114) (by decide +kernel)) rfl, pv_in (List.mem_of_getElem? (i := 1115) (by decide +kernel)) rfl⟩
theorem lkX6_112 : pvLV RX6 112 mX6_advance := ⟨pv_in (List.mem_of_getElem? (i := 1117) (by decide +kernel)) rfl, pv_in (List.mem_of_getElem? (i := 1119) (by decide +kernel)) rfl, pv_in (List.mem_of_getElem? (i := 31) (by decide +kernel)) rfl⟩
theorem lkX6_115 : pvLV RX6 115 mX6_readOwner := ⟨pv_in (List.mem_of_getElem? (i := 1121) (by decide +kernel)) rfl, pv_in (List.mem_of_getElem? (i := 1123) (by decide +kernel)) rfl, pv_in (List.mem_of_getElem? (i := 32) (by decide +kernel)) rfl⟩
theorem lkX6_127 : pvLV RX6 127 mX0_setOwner := ⟨pv_in (List.mem_of_getElem? (i := 1125) (by decide +kernel)) rfl, pv_in (List.mem_of_getElem? (i := 1126) (by decide +kernel)) rfl, pv_in (List.mem_of_getElem? (i := 1127) (by decide +kernel)) rfl⟩
theorem lkX6_118 : pvLV RX6 118 mX6_readSum := ⟨pv_in (List.mem_of_getElem? (i := 1129) (by decide +kernel)) rfl, pv_in (List.mem_of_getElem? (i := 1131) (by decide +kernel)) rfl, pv_in (List.mem_of_getElem? (i := 33) (by decide +kernel)) rfl⟩
theorem lkX6_137 : pvLV RX6 137 mX6_readOne := ⟨pv_in (List.mem_of_getElem? (i := 1133) (by decide +kernel)) rfl, pv_in (List.mem_of_getElem? (i := 1135) (by decide +kernel)) rfl, pv_in (List.mem_of_getElem? (i := 34) (by decide +kernel)) rfl⟩
theorem lkX6_140 : pvLV RX6 140 mX6_faultOfOne := ⟨pv_in (List.mem_of_getElem? (i := 1137) (by decide +kernel)) rfl, pv_in (List.mem_of_getElem? (i := 1139) (by decide +kernel)) rfl, pv_in (List.mem_of_getElem? (i := 35) (by decide +kernel)) rfl⟩
theorem lkX6_124 : pvLV RX6 124 mX0_add := ⟨pv_in (List.mem_of_getElem? (i := 1142) (by decide +kernel)) rfl, pv_in (List.mem_of_getElem? (i := 1143) (by decide +kernel)) rfl, pv_in (List.mem_of_getElem? (i := 1144) (by decide +kernel)) rfl⟩
theorem lkX6_121 : pvLV RX6 121 mX6_readEither := ⟨pv_in (List.mem_of_getElem? (i := 1146) (by decide +kernel)) rfl, pv_in (List.mem_of_getElem? (i := 1148) (by decide +kernel)) rfl, pv_in (List.mem_of_getElem? (i := 36) (by decide +kernel)) rfl⟩
theorem lkX6_130 : pvLV RX6 130 mX6_readAsked := ⟨pv_in (List.mem_of_getElem? (i := 1150) (by decide +kernel)) rfl, pv_in (List.mem_of_getElem? (i := 1152) (by decide +kernel)) rfl, pv_in (List.mem_of_getElem? (i := 37) (by decide +kernel)) rfl⟩
theorem lkX6_133 : pvLS RX6 133 mX6_isComparison := ⟨pv_in (List.mem_of_getElem? (i := 1154) (by decide +kernel)) rfl, pv_in (List.mem_of_getElem? (i := 1155) (by decide +kernel)) rfl⟩
theorem lkL_138 : pvLV RL 138 mX11_fault := ⟨pv_in (List.mem_of_getElem? (i := 1158) (by decide +kernel)) rfl, pv_in (List.mem_of_getElem? (i := 1159) (by decide +kernel)) rfl, pv_in (List.mem_of_getElem? (i := 1160) (by decide +kernel)) rfl⟩
theorem lkL_142 : pvLV RL 142 mX11_force := ⟨pv_in (List.mem_of_getElem? (i := 1162) (by decide +kernel)) rfl, pv_in (List.mem_of_getElem? (i := 1163) (by decide +kernel)) rfl, pv_in (List.mem_of_getElem? (i := 1164) (by decide +kernel)) rfl⟩
theorem lkX11_355 : pvLV RX11 355 mX5_addForce := ⟨pv_in (List.mem_of_getElem? (i := 1166) (by decide +kernel)) rfl, pv_in (List.mem_of_getElem? (i := 1167) (by decide +kernel)) rfl, pv_in (List.mem_of_getElem? (i := 1168) (by decide +kernel)) rfl⟩
theorem lkL_146 : pvLV RL 146 mX11_by := ⟨pv_in (List.mem_of_getElem? (i := 1170) (by decide +kernel)) rfl, pv_in (List.mem_of_getElem? (i := 1171) (by decide +kernel)) rfl, pv_in (List.mem_of_getElem? (i := 1172) (by decide +kernel)) rfl⟩
theorem lkX11_358 : pvLV RX11 358 mX11_shutOf := ⟨pv_in (List.mem_of_getElem? (i := 1174) (by decide +kernel)) rfl, pv_in (List.mem_of_getElem? (i := 1176) (by decide +kernel)) rfl, pv_in (List.mem_of_getElem? (i := 38) (by decide +kernel)) rfl⟩
theorem lkX11_365 : pvLV RX11 365 mX11_actFor := ⟨pv_in (List.mem_of_getElem? (i := 1178) (by decide +kernel)) rfl, pv_in (List.mem_of_getElem? (i := 1180) (by decide +kernel)) rfl, pv_in (List.mem_of_getElem? (i := 39) (by decide +kernel)) rfl⟩
theorem lkX11_485 : pvLV RX11 485 mX0_first := ⟨pv_in (List.mem_of_getElem? (i := 1182) (by decide +kernel)) rfl, pv_in (List.mem_of_getElem? (i := 1183) (by decide +kernel)) rfl, pv_in (List.mem_of_getElem? (i := 1184) (by decide +kernel)) rfl⟩
theorem lkX11_494 : pvLV RX11 494 mX11_nameHouse := ⟨pv_in (List.mem_of_getElem? (i := 1186) (by decide +kernel)) rfl, pv_in (List.mem_of_getElem? (i := 1188) (by decide +kernel)) rfl, pv_in (List.mem_of_getElem? (i := 40) (by decide +kernel)) rfl⟩
theorem lkX11_491 : pvLV RX11 491 mX7_thereIn := ⟨pv_in (List.mem_of_getElem? (i := 1190) (by decide +kernel)) rfl, pv_in (List.mem_of_getElem? (i := 1191) (by decide +kernel)) rfl, pv_in (List.mem_of_getElem? (i := 1192) (by decide +kernel)) rfl⟩
theorem lkX11_378 : pvLV RX11 378 mX0_value := ⟨pv_in (List.mem_of_getElem? (i := 1194) (by decide +kernel)) rfl, pv_in (List.mem_of_getElem? (i := 1195) (by decide +kernel)) rfl, pv_in (List.mem_of_getElem? (i := 1196) (by decide +kernel)) rfl⟩
theorem lkX0_34 : pvLS RX0 34 mX0_joined := ⟨pv_in (List.mem_of_getElem? (i := 1199) (by decide +kernel)) rfl, pv_in (List.mem_of_getElem? (i := 1200) (by decide +kernel)) rfl⟩
theorem lkX0_38 : pvLS RX0 38 mX0_limited := ⟨pv_in (List.mem_of_getElem? (i := 1202) (by decide +kernel)) rfl, pv_in (List.mem_of_getElem? (i := 1203) (by decide +kernel)) rfl⟩
theorem lkX0_50 : pvLS RX0 50 mJ9_min_f86c9 := ⟨pv_in (List.mem_of_getElem? (i := 1207) (by decide +kernel)) rfl, pv_in (List.mem_of_getElem? (i := 1208) (by decide +kernel)) rfl⟩
theorem lkX0_56 : pvLS RX0 56 mJ9_max_f86c9 := ⟨pv_in (List.mem_of_getElem? (i := 1210) (by decide +kernel)) rfl, pv_in (List.mem_of_getElem? (i := 1211) (by decide +kernel)) rfl⟩
theorem lkX0_42 : pvLS RX0 42 mX0_isSo := ⟨pv_in (List.mem_of_getElem? (i := 1213) (by decide +kernel)) rfl, pv_in (List.mem_of_getElem? (i := 1214) (by decide +kernel)) rfl⟩
theorem lkX11_361 : pvLV RX11 361 mX11_worthOf := ⟨pv_in (List.mem_of_getElem? (i := 1216) (by decide +kernel)) rfl, pv_in (List.mem_of_getElem? (i := 1218) (by decide +kernel)) rfl, pv_in (List.mem_of_getElem? (i := 41) (by decide +kernel)) rfl⟩
theorem lkL_150 : pvLV RL 150 mX11_whose := ⟨pv_in (List.mem_of_getElem? (i := 1220) (by decide +kernel)) rfl, pv_in (List.mem_of_getElem? (i := 1221) (by decide +kernel)) rfl, pv_in (List.mem_of_getElem? (i := 1222) (by decide +kernel)) rfl⟩
theorem lkX11_369 : pvLV RX11 369 mX7_howManyWent := ⟨pv_in (List.mem_of_getElem? (i := 1224) (by decide +kernel)) rfl, pv_in (List.mem_of_getElem? (i := 1225) (by decide +kernel)) rfl, pv_in (List.mem_of_getElem? (i := 1226) (by decide +kernel)) rfl⟩
theorem lkL_154 : pvLV RL 154 mX11_vote := ⟨pv_in (List.mem_of_getElem? (i := 1228) (by decide +kernel)) rfl, pv_in (List.mem_of_getElem? (i := 1229) (by decide +kernel)) rfl, pv_in (List.mem_of_getElem? (i := 1230) (by decide +kernel)) rfl⟩
theorem lkX11_385 : pvLV RX11 385 mX11_countVotes := ⟨pv_in (List.mem_of_getElem? (i := 1232) (by decide +kernel)) rfl, pv_in (List.mem_of_getElem? (i := 1234) (by decide +kernel)) rfl, pv_in (List.mem_of_getElem? (i := 42) (by decide +kernel)) rfl⟩
theorem lkX11_497 : pvLV RX11 497 mX7_isThere := ⟨pv_in (List.mem_of_getElem? (i := 1236) (by decide +kernel)) rfl, pv_in (List.mem_of_getElem? (i := 992) (by decide +kernel)) rfl, pv_in (List.mem_of_getElem? (i := 993) (by decide +kernel)) rfl⟩
theorem lkX11_500 : pvLV RX11 500 mX11_votesYes := ⟨pv_in (List.mem_of_getElem? (i := 1237) (by decide +kernel)) rfl, pv_in (List.mem_of_getElem? (i := 1239) (by decide +kernel)) rfl, pv_in (List.mem_of_getElem? (i := 43) (by decide +kernel)) rfl⟩
theorem lkX11_388 : pvLV RX11 388 mX11_leastGift := ⟨pv_in (List.mem_of_getElem? (i := 1241) (by decide +kernel)) rfl, pv_in (List.mem_of_getElem? (i := 1243) (by decide +kernel)) rfl, pv_in (List.mem_of_getElem? (i := 44) (by decide +kernel)) rfl⟩
theorem lkL_158 : pvLV RL 158 mX11_place := ⟨pv_in (List.mem_of_getElem? (i := 1245) (by decide +kernel)) rfl, pv_in (List.mem_of_getElem? (i := 1246) (by decide +kernel)) rfl, pv_in (List.mem_of_getElem? (i := 1247) (by decide +kernel)) rfl⟩
theorem lkX11_394 : pvLV RX11 394 mX8_add := ⟨pv_in (List.mem_of_getElem? (i := 1249) (by decide +kernel)) rfl, pv_in (List.mem_of_getElem? (i := 1250) (by decide +kernel)) rfl, pv_in (List.mem_of_getElem? (i := 1251) (by decide +kernel)) rfl⟩
theorem lkX8_34 : pvLV RX8 34 mX8_forget := ⟨pv_in (List.mem_of_getElem? (i := 1253) (by decide +kernel)) rfl, pv_in (List.mem_of_getElem? (i := 670) (by decide +kernel)) rfl, pv_in (List.mem_of_getElem? (i := 671) (by decide +kernel)) rfl⟩
theorem lkL_162 : pvLV RL 162 mX11_best := ⟨pv_in (List.mem_of_getElem? (i := 1254) (by decide +kernel)) rfl, pv_in (List.mem_of_getElem? (i := 1255) (by decide +kernel)) rfl, pv_in (List.mem_of_getElem? (i := 1256) (by decide +kernel)) rfl⟩
theorem lkX11_404 : pvLV RX11 404 mX11_findBest := ⟨pv_in (List.mem_of_getElem? (i := 1259) (by decide +kernel)) rfl, pv_in (List.mem_of_getElem? (i := 1261) (by decide +kernel)) rfl, pv_in (List.mem_of_getElem? (i := 45) (by decide +kernel)) rfl⟩
theorem lkX11_513 : pvLV RX11 513 mX8_costOf := ⟨pv_in (List.mem_of_getElem? (i := 1263) (by decide +kernel)) rfl, pv_in (List.mem_of_getElem? (i := 1264) (by decide +kernel)) rfl, pv_in (List.mem_of_getElem? (i := 1265) (by decide +kernel)) rfl⟩
theorem lkX11_516 : pvLV RX11 516 mX8_cellsOf := ⟨pv_in (List.mem_of_getElem? (i := 1268) (by decide +kernel)) rfl, pv_in (List.mem_of_getElem? (i := 1269) (by decide +kernel)) rfl, pv_in (List.mem_of_getElem? (i := 1270) (by decide +kernel)) rfl⟩
theorem lkX11_519 : pvLV RX11 519 mX11_greatestLost := ⟨pv_in (List.mem_of_getElem? (i := 1273) (by decide +kernel)) rfl, pv_in (List.mem_of_getElem? (i := 1275) (by decide +kernel)) rfl, pv_in (List.mem_of_getElem? (i := 46) (by decide +kernel)) rfl⟩
theorem lkX11_523 : pvLV RX11 523 mX1_standAs := ⟨pv_in (List.mem_of_getElem? (i := 1277) (by decide +kernel)) rfl, pv_in (List.mem_of_getElem? (i := 1278) (by decide +kernel)) rfl, pv_in (List.mem_of_getElem? (i := 1279) (by decide +kernel)) rfl⟩
theorem lkL_166 : pvLV RL 166 mX11_image := ⟨pv_in (List.mem_of_getElem? (i := 1281) (by decide +kernel)) rfl, pv_in (List.mem_of_getElem? (i := 1282) (by decide +kernel)) rfl, pv_in (List.mem_of_getElem? (i := 1283) (by decide +kernel)) rfl⟩
theorem lkX11_416 : pvLV RX11 416 mX10_take := ⟨pv_in (List.mem_of_getElem? (i := 1285) (by decide +kernel)) rfl, pv_in (List.mem_of_getElem? (i := 1286) (by decide +kernel)) rfl, pv_in (List.mem_of_getElem? (i := 1287) (by decide +kernel)) rfl⟩
theorem lkX10_61 : pvLV RX10 61 mX3_take := ⟨pv_in (List.mem_of_getElem? (i := 1289) (by decide +kernel)) rfl, pv_in (List.mem_of_getElem? (i := 1290) (by decide +kernel)) rfl, pv_in (List.mem_of_getElem? (i := 1291) (by decide +kernel)) rfl⟩
theorem lkX10_65 : pvLV RX10 65 mX9_take := ⟨pv_in (List.mem_of_getElem? (i := 1294) (by decide +kernel)) rfl, pv_in (List.mem_of_getElem? (i := 1295) (by decide +kernel)) rfl, pv_in (List.mem_of_getElem? (i := 1296) (by decide +kernel)) rfl⟩
theorem lkX10_68 : pvLV RX10 68 mX4_take := ⟨pv_in (List.mem_of_getElem? (i := 1299) (by decide +kernel)) rfl, pv_in (List.mem_of_getElem? (i := 1300) (by decide +kernel)) rfl, pv_in (List.mem_of_getElem? (i := 1301) (by decide +kernel)) rfl⟩
theorem lkX10_71 : pvLV RX10 71 mX7_take := ⟨pv_in (List.mem_of_getElem? (i := 1304) (by decide +kernel)) rfl, pv_in (List.mem_of_getElem? (i := 1305) (by decide +kernel)) rfl, pv_in (List.mem_of_getElem? (i := 1306) (by decide +kernel)) rfl⟩
theorem lkX10_74 : pvLV RX10 74 mX5_take := ⟨pv_in (List.mem_of_getElem? (i := 1309) (by decide +kernel)) rfl, pv_in (List.mem_of_getElem? (i := 1310) (by decide +kernel)) rfl, pv_in (List.mem_of_getElem? (i := 1311) (by decide +kernel)) rfl⟩
theorem lkX10_77 : pvLV RX10 77 mX8_take := ⟨pv_in (List.mem_of_getElem? (i := 1314) (by decide +kernel)) rfl, pv_in (List.mem_of_getElem? (i := 1315) (by decide +kernel)) rfl, pv_in (List.mem_of_getElem? (i := 1316) (by decide +kernel)) rfl⟩
theorem lkL_170 : pvLV RL 170 mX11_back := ⟨pv_in (List.mem_of_getElem? (i := 1319) (by decide +kernel)) rfl, pv_in (List.mem_of_getElem? (i := 1320) (by decide +kernel)) rfl, pv_in (List.mem_of_getElem? (i := 1321) (by decide +kernel)) rfl⟩
theorem lkL_174 : pvLV RL 174 mX11_about := ⟨pv_in (List.mem_of_getElem? (i := 1323) (by decide +kernel)) rfl, pv_in (List.mem_of_getElem? (i := 1324) (by decide +kernel)) rfl, pv_in (List.mem_of_getElem? (i := 1325) (by decide +kernel)) rfl⟩
theorem lkL_9 : pvLS RL 9 mL_cell := ⟨pv_in (List.mem_of_getElem? (i := 1327) (by decide +kernel)) rfl, pv_in (List.mem_of_getElem? (i := 1328) (by decide +kernel)) rfl⟩
theorem lkL_20 : pvLI RL 20 mX12_init := ⟨pv_in (List.mem_of_getElem? (i := 1332) (by decide +kernel)) rfl, pv_in (List.mem_of_getElem? (i := 1333) (by decide +kernel)) rfl, rfl⟩
theorem lkX12_92 : pvLS RX12 92 mX12_copy := ⟨pv_in (List.mem_of_getElem? (i := 1337) (by decide +kernel)) rfl, pv_in (List.mem_of_getElem? (i := 1338) (by decide +kernel)) rfl⟩
theorem lkL_24 : pvLV RL 24 mX12_cell := ⟨pv_in (List.mem_of_getElem? (i := 1467) (by decide +kernel)) rfl, pv_in (List.mem_of_getElem? (i := 1468) (by decide +kernel)) rfl, pv_in (List.mem_of_getElem? (i := 1469) (by decide +kernel)) rfl⟩
theorem lkX12_100 : pvLV RX12 100 mX12_isCell := ⟨pv_in (List.mem_of_getElem? (i := 1471) (by decide +kernel)) rfl, pv_in (List.mem_of_getElem? (i := 1473) (by decide +kernel)) rfl, pv_in (List.mem_of_getElem? (i := 47) (by decide +kernel)) rfl⟩
theorem lkX12_96 : pvLS RX12 96 mX12_isIn := ⟨pv_in (List.mem_of_getElem? (i := 1475) (by decide +kernel)) rfl, pv_in (List.mem_of_getElem? (i := 1476) (by decide +kernel)) rfl⟩
theorem lkL_28 : pvLV RL 28 mX12_rules := ⟨pv_in (List.mem_of_getElem? (i := 1478) (by decide +kernel)) rfl, pv_in (List.mem_of_getElem? (i := 1479) (by decide +kernel)) rfl, pv_in (List.mem_of_getElem? (i := 1480) (by decide +kernel)) rfl⟩
theorem lkL_33 : pvLV RL 33 mX12_hole := ⟨pv_in (List.mem_of_getElem? (i := 1482) (by decide +kernel)) rfl, pv_in (List.mem_of_getElem? (i := 1483) (by decide +kernel)) rfl, pv_in (List.mem_of_getElem? (i := 1484) (by decide +kernel)) rfl⟩
theorem lkL_38 : pvLV RL 38 mX12_plug := ⟨pv_in (List.mem_of_getElem? (i := 1486) (by decide +kernel)) rfl, pv_in (List.mem_of_getElem? (i := 1487) (by decide +kernel)) rfl, pv_in (List.mem_of_getElem? (i := 1488) (by decide +kernel)) rfl⟩
theorem lkX12_104 : pvLV RX12 104 mX12_isHole := ⟨pv_in (List.mem_of_getElem? (i := 1490) (by decide +kernel)) rfl, pv_in (List.mem_of_getElem? (i := 1492) (by decide +kernel)) rfl, pv_in (List.mem_of_getElem? (i := 48) (by decide +kernel)) rfl⟩
theorem lkL_43 : pvLV RL 43 mX12_pour := ⟨pv_in (List.mem_of_getElem? (i := 1494) (by decide +kernel)) rfl, pv_in (List.mem_of_getElem? (i := 1495) (by decide +kernel)) rfl, pv_in (List.mem_of_getElem? (i := 1496) (by decide +kernel)) rfl⟩
theorem lkX12_107 : pvLV RX12 107 mX12_fillOf := ⟨pv_in (List.mem_of_getElem? (i := 1498) (by decide +kernel)) rfl, pv_in (List.mem_of_getElem? (i := 1500) (by decide +kernel)) rfl, pv_in (List.mem_of_getElem? (i := 49) (by decide +kernel)) rfl⟩
theorem lkX12_111 : pvLV RX12 111 mX12_beside := ⟨pv_in (List.mem_of_getElem? (i := 1502) (by decide +kernel)) rfl, pv_in (List.mem_of_getElem? (i := 1504) (by decide +kernel)) rfl, pv_in (List.mem_of_getElem? (i := 50) (by decide +kernel)) rfl⟩
theorem lkL_47 : pvLV RL 47 mX12_fill := ⟨pv_in (List.mem_of_getElem? (i := 1506) (by decide +kernel)) rfl, pv_in (List.mem_of_getElem? (i := 1507) (by decide +kernel)) rfl, pv_in (List.mem_of_getElem? (i := 1508) (by decide +kernel)) rfl⟩
theorem lkL_52 : pvLV RL 52 mX12_trench := ⟨pv_in (List.mem_of_getElem? (i := 1510) (by decide +kernel)) rfl, pv_in (List.mem_of_getElem? (i := 1511) (by decide +kernel)) rfl, pv_in (List.mem_of_getElem? (i := 1512) (by decide +kernel)) rfl⟩
theorem lkL_56 : pvLV RL 56 mX12_state := ⟨pv_in (List.mem_of_getElem? (i := 1514) (by decide +kernel)) rfl, pv_in (List.mem_of_getElem? (i := 1515) (by decide +kernel)) rfl, pv_in (List.mem_of_getElem? (i := 1516) (by decide +kernel)) rfl⟩
theorem lkX12_115 : pvLS RX12 115 mX12_isWeek := ⟨pv_in (List.mem_of_getElem? (i := 1518) (by decide +kernel)) rfl, pv_in (List.mem_of_getElem? (i := 1519) (by decide +kernel)) rfl⟩
theorem lkL_60 : pvLV RL 60 mX12_burns := ⟨pv_in (List.mem_of_getElem? (i := 1521) (by decide +kernel)) rfl, pv_in (List.mem_of_getElem? (i := 1522) (by decide +kernel)) rfl, pv_in (List.mem_of_getElem? (i := 1523) (by decide +kernel)) rfl⟩
theorem lkX12_139 : pvLV RX12 139 mX12_isState := ⟨pv_in (List.mem_of_getElem? (i := 1525) (by decide +kernel)) rfl, pv_in (List.mem_of_getElem? (i := 1527) (by decide +kernel)) rfl, pv_in (List.mem_of_getElem? (i := 51) (by decide +kernel)) rfl⟩
theorem lkX12_135 : pvLV RX12 135 mX12_run := ⟨pv_in (List.mem_of_getElem? (i := 1529) (by decide +kernel)) rfl, pv_in (List.mem_of_getElem? (i := 1531) (by decide +kernel)) rfl, pv_in (List.mem_of_getElem? (i := 52) (by decide +kernel)) rfl⟩
theorem lkX12_121 : pvLV RX12 121 mX12_first := ⟨pv_in (List.mem_of_getElem? (i := 1533) (by decide +kernel)) rfl, pv_in (List.mem_of_getElem? (i := 1535) (by decide +kernel)) rfl, pv_in (List.mem_of_getElem? (i := 53) (by decide +kernel)) rfl⟩
theorem lkX12_124 : pvLV RX12 124 mX12_begin := ⟨pv_in (List.mem_of_getElem? (i := 1537) (by decide +kernel)) rfl, pv_in (List.mem_of_getElem? (i := 1539) (by decide +kernel)) rfl, pv_in (List.mem_of_getElem? (i := 54) (by decide +kernel)) rfl⟩
theorem lkX12_128 : pvLV RX12 128 mX12_blow := ⟨pv_in (List.mem_of_getElem? (i := 1541) (by decide +kernel)) rfl, pv_in (List.mem_of_getElem? (i := 1543) (by decide +kernel)) rfl, pv_in (List.mem_of_getElem? (i := 55) (by decide +kernel)) rfl⟩
theorem lkX12_118 : pvLV RX12 118 mX12_isOpen := ⟨pv_in (List.mem_of_getElem? (i := 1545) (by decide +kernel)) rfl, pv_in (List.mem_of_getElem? (i := 1547) (by decide +kernel)) rfl, pv_in (List.mem_of_getElem? (i := 56) (by decide +kernel)) rfl⟩
theorem lkX12_132 : pvLV RX12 132 mX12_burnOn := ⟨pv_in (List.mem_of_getElem? (i := 1549) (by decide +kernel)) rfl, pv_in (List.mem_of_getElem? (i := 1551) (by decide +kernel)) rfl, pv_in (List.mem_of_getElem? (i := 57) (by decide +kernel)) rfl⟩
theorem lkL_64 : pvLV RL 64 mX12_lost := ⟨pv_in (List.mem_of_getElem? (i := 1553) (by decide +kernel)) rfl, pv_in (List.mem_of_getElem? (i := 1554) (by decide +kernel)) rfl, pv_in (List.mem_of_getElem? (i := 1555) (by decide +kernel)) rfl⟩
theorem lkX12_142 : pvLV RX12 142 mX12_lostAt := ⟨pv_in (List.mem_of_getElem? (i := 1557) (by decide +kernel)) rfl, pv_in (List.mem_of_getElem? (i := 1559) (by decide +kernel)) rfl, pv_in (List.mem_of_getElem? (i := 58) (by decide +kernel)) rfl⟩
theorem lkL_69 : pvLV RL 69 mX12_fed := ⟨pv_in (List.mem_of_getElem? (i := 1561) (by decide +kernel)) rfl, pv_in (List.mem_of_getElem? (i := 1562) (by decide +kernel)) rfl, pv_in (List.mem_of_getElem? (i := 1563) (by decide +kernel)) rfl⟩
theorem lkL_78 : pvLV RL 78 mX12_read := ⟨pv_in (List.mem_of_getElem? (i := 1565) (by decide +kernel)) rfl, pv_in (List.mem_of_getElem? (i := 1566) (by decide +kernel)) rfl, pv_in (List.mem_of_getElem? (i := 1567) (by decide +kernel)) rfl⟩
theorem lkL_82 : pvLV RL 82 mX12_let := ⟨pv_in (List.mem_of_getElem? (i := 1569) (by decide +kernel)) rfl, pv_in (List.mem_of_getElem? (i := 1570) (by decide +kernel)) rfl, pv_in (List.mem_of_getElem? (i := 1571) (by decide +kernel)) rfl⟩
theorem lkX12_149 : pvLV RX12 149 mX12_runAll := ⟨pv_in (List.mem_of_getElem? (i := 1573) (by decide +kernel)) rfl, pv_in (List.mem_of_getElem? (i := 1575) (by decide +kernel)) rfl, pv_in (List.mem_of_getElem? (i := 59) (by decide +kernel)) rfl⟩
theorem lkX12_152 : pvLV RX12 152 mX12_manyLet := ⟨pv_in (List.mem_of_getElem? (i := 1577) (by decide +kernel)) rfl, pv_in (List.mem_of_getElem? (i := 1579) (by decide +kernel)) rfl, pv_in (List.mem_of_getElem? (i := 60) (by decide +kernel)) rfl⟩
theorem lkX12_145 : pvLV RX12 145 mX12_isLet := ⟨pv_in (List.mem_of_getElem? (i := 1581) (by decide +kernel)) rfl, pv_in (List.mem_of_getElem? (i := 1583) (by decide +kernel)) rfl, pv_in (List.mem_of_getElem? (i := 61) (by decide +kernel)) rfl⟩
theorem lkL_86 : pvLV RL 86 mX12_span := ⟨pv_in (List.mem_of_getElem? (i := 1585) (by decide +kernel)) rfl, pv_in (List.mem_of_getElem? (i := 1586) (by decide +kernel)) rfl, pv_in (List.mem_of_getElem? (i := 1587) (by decide +kernel)) rfl⟩
theorem lkX12_155 : pvLV RX12 155 mX12_manyBurn := ⟨pv_in (List.mem_of_getElem? (i := 1589) (by decide +kernel)) rfl, pv_in (List.mem_of_getElem? (i := 1591) (by decide +kernel)) rfl, pv_in (List.mem_of_getElem? (i := 62) (by decide +kernel)) rfl⟩
theorem lkL_90 : pvLV RL 90 mX12_parts := ⟨pv_in (List.mem_of_getElem? (i := 1593) (by decide +kernel)) rfl, pv_in (List.mem_of_getElem? (i := 1594) (by decide +kernel)) rfl, pv_in (List.mem_of_getElem? (i := 1595) (by decide +kernel)) rfl⟩
theorem lkL_73 : pvLV RL 73 mX12_inTime := ⟨pv_in (List.mem_of_getElem? (i := 1597) (by decide +kernel)) rfl, pv_in (List.mem_of_getElem? (i := 1598) (by decide +kernel)) rfl, pv_in (List.mem_of_getElem? (i := 1599) (by decide +kernel)) rfl⟩
theorem lkL_94 : pvLV RL 94 mX12_house := ⟨pv_in (List.mem_of_getElem? (i := 1601) (by decide +kernel)) rfl, pv_in (List.mem_of_getElem? (i := 1602) (by decide +kernel)) rfl, pv_in (List.mem_of_getElem? (i := 1603) (by decide +kernel)) rfl⟩
theorem lkL_98 : pvLV RL 98 mX12_gas := ⟨pv_in (List.mem_of_getElem? (i := 1605) (by decide +kernel)) rfl, pv_in (List.mem_of_getElem? (i := 1606) (by decide +kernel)) rfl, pv_in (List.mem_of_getElem? (i := 1607) (by decide +kernel)) rfl⟩
theorem lkX12_162 : pvLV RX12 162 mX12_isHouse := ⟨pv_in (List.mem_of_getElem? (i := 1609) (by decide +kernel)) rfl, pv_in (List.mem_of_getElem? (i := 1611) (by decide +kernel)) rfl, pv_in (List.mem_of_getElem? (i := 63) (by decide +kernel)) rfl⟩
theorem lkX12_165 : pvLV RX12 165 mX12_gasOf := ⟨pv_in (List.mem_of_getElem? (i := 1613) (by decide +kernel)) rfl, pv_in (List.mem_of_getElem? (i := 1615) (by decide +kernel)) rfl, pv_in (List.mem_of_getElem? (i := 64) (by decide +kernel)) rfl⟩
theorem lkX12_159 : pvLS RX12 159 mX12_abs := ⟨pv_in (List.mem_of_getElem? (i := 1617) (by decide +kernel)) rfl, pv_in (List.mem_of_getElem? (i := 1618) (by decide +kernel)) rfl⟩
theorem lkL_102 : pvLV RL 102 mX12_person := ⟨pv_in (List.mem_of_getElem? (i := 1620) (by decide +kernel)) rfl, pv_in (List.mem_of_getElem? (i := 1621) (by decide +kernel)) rfl, pv_in (List.mem_of_getElem? (i := 1622) (by decide +kernel)) rfl⟩
theorem lkL_107 : pvLV RL 107 mX12_hears := ⟨pv_in (List.mem_of_getElem? (i := 1624) (by decide +kernel)) rfl, pv_in (List.mem_of_getElem? (i := 1625) (by decide +kernel)) rfl, pv_in (List.mem_of_getElem? (i := 1626) (by decide +kernel)) rfl⟩
theorem lkX12_169 : pvLV RX12 169 mX12_isPerson := ⟨pv_in (List.mem_of_getElem? (i := 1628) (by decide +kernel)) rfl, pv_in (List.mem_of_getElem? (i := 1630) (by decide +kernel)) rfl, pv_in (List.mem_of_getElem? (i := 65) (by decide +kernel)) rfl⟩
theorem lkL_111 : pvLV RL 111 mX12_offer := ⟨pv_in (List.mem_of_getElem? (i := 1632) (by decide +kernel)) rfl, pv_in (List.mem_of_getElem? (i := 1633) (by decide +kernel)) rfl, pv_in (List.mem_of_getElem? (i := 1634) (by decide +kernel)) rfl⟩
theorem lkL_115 : pvLV RL 115 mX12_pull := ⟨pv_in (List.mem_of_getElem? (i := 1636) (by decide +kernel)) rfl, pv_in (List.mem_of_getElem? (i := 1637) (by decide +kernel)) rfl, pv_in (List.mem_of_getElem? (i := 1638) (by decide +kernel)) rfl⟩
theorem lkL_119 : pvLV RL 119 mX12_gone := ⟨pv_in (List.mem_of_getElem? (i := 1640) (by decide +kernel)) rfl, pv_in (List.mem_of_getElem? (i := 1641) (by decide +kernel)) rfl, pv_in (List.mem_of_getElem? (i := 1642) (by decide +kernel)) rfl⟩
theorem lkL_123 : pvLV RL 123 mX12_weeks := ⟨pv_in (List.mem_of_getElem? (i := 1644) (by decide +kernel)) rfl, pv_in (List.mem_of_getElem? (i := 1645) (by decide +kernel)) rfl, pv_in (List.mem_of_getElem? (i := 1646) (by decide +kernel)) rfl⟩
theorem lkX12_175 : pvLV RX12 175 mX12_leave := ⟨pv_in (List.mem_of_getElem? (i := 1648) (by decide +kernel)) rfl, pv_in (List.mem_of_getElem? (i := 1650) (by decide +kernel)) rfl, pv_in (List.mem_of_getElem? (i := 66) (by decide +kernel)) rfl⟩
theorem lkX12_172 : pvLV RX12 172 mX12_kinGone := ⟨pv_in (List.mem_of_getElem? (i := 1652) (by decide +kernel)) rfl, pv_in (List.mem_of_getElem? (i := 1654) (by decide +kernel)) rfl, pv_in (List.mem_of_getElem? (i := 67) (by decide +kernel)) rfl⟩
theorem lkL_128 : pvLV RL 128 mX12_feed := ⟨pv_in (List.mem_of_getElem? (i := 1656) (by decide +kernel)) rfl, pv_in (List.mem_of_getElem? (i := 1657) (by decide +kernel)) rfl, pv_in (List.mem_of_getElem? (i := 1658) (by decide +kernel)) rfl⟩
theorem lkX12_181 : pvLV RX12 181 mX12_four := ⟨pv_in (List.mem_of_getElem? (i := 1660) (by decide +kernel)) rfl, pv_in (List.mem_of_getElem? (i := 1662) (by decide +kernel)) rfl, pv_in (List.mem_of_getElem? (i := 68) (by decide +kernel)) rfl⟩
theorem lkL_132 : pvLV RL 132 mX12_end := ⟨pv_in (List.mem_of_getElem? (i := 1664) (by decide +kernel)) rfl, pv_in (List.mem_of_getElem? (i := 1665) (by decide +kernel)) rfl, pv_in (List.mem_of_getElem? (i := 1666) (by decide +kernel)) rfl⟩
theorem lkL_137 : pvLV RL 137 mX12_act := ⟨pv_in (List.mem_of_getElem? (i := 1668) (by decide +kernel)) rfl, pv_in (List.mem_of_getElem? (i := 1669) (by decide +kernel)) rfl, pv_in (List.mem_of_getElem? (i := 1670) (by decide +kernel)) rfl⟩
theorem lkX12_311 : pvLV RX12 311 mX12_readText := ⟨pv_in (List.mem_of_getElem? (i := 1672) (by decide +kernel)) rfl, pv_in (List.mem_of_getElem? (i := 1674) (by decide +kernel)) rfl, pv_in (List.mem_of_getElem? (i := 69) (by decide +kernel)) rfl⟩
theorem lkX12_249 : pvLV RX12 249 mX12_nextToken := ⟨pv_in (List.mem_of_getElem? (i := 1676) (by decide +kernel)) rfl, pv_in (List.mem_of_getElem? (i := 1678) (by decide +kernel)) rfl, pv_in (List.mem_of_getElem? (i := 70) (by decide +kernel)) rfl⟩
theorem lkX12_188 : pvLV RX12 188 mX12_see := ⟨pv_in (List.mem_of_getElem? (i := 1680) (by decide +kernel)) rfl, pv_in (List.mem_of_getElem? (i := 1682) (by decide +kernel)) rfl, pv_in (List.mem_of_getElem? (i := 71) (by decide +kernel)) rfl⟩
theorem lkX12_197 : pvLS RX12 197 mX12_isDigit := ⟨pv_in (List.mem_of_getElem? (i := 1684) (by decide +kernel)) rfl, pv_in (List.mem_of_getElem? (i := 1685) (by decide +kernel)) rfl⟩
theorem lkX12_204 : pvLS RX12 204 mX12_isLetter := ⟨pv_in (List.mem_of_getElem? (i := 1688) (by decide +kernel)) rfl, pv_in (List.mem_of_getElem? (i := 1689) (by decide +kernel)) rfl⟩
theorem lkX12_308 : pvLV RX12 308 mX12_clause := ⟨pv_in (List.mem_of_getElem? (i := 1691) (by decide +kernel)) rfl, pv_in (List.mem_of_getElem? (i := 1693) (by decide +kernel)) rfl, pv_in (List.mem_of_getElem? (i := 72) (by decide +kernel)) rfl⟩
theorem lkX12_296 : pvLV RX12 296 mX12_sortOf := ⟨pv_in (List.mem_of_getElem? (i := 1695) (by decide +kernel)) rfl, pv_in (List.mem_of_getElem? (i := 1697) (by decide +kernel)) rfl, pv_in (List.mem_of_getElem? (i := 73) (by decide +kernel)) rfl⟩
theorem lkX12_242 : pvLS RX12 242 mX12_w4 := ⟨pv_in (List.mem_of_getElem? (i := 1699) (by decide +kernel)) rfl, pv_in (List.mem_of_getElem? (i := 1700) (by decide +kernel)) rfl⟩
theorem lkX12_211 : pvLS RX12 211 mX12_w3 := ⟨pv_in (List.mem_of_getElem? (i := 1702) (by decide +kernel)) rfl, pv_in (List.mem_of_getElem? (i := 1703) (by decide +kernel)) rfl⟩
theorem lkX12_281 : pvLV RX12 281 mX12_isWord := ⟨pv_in (List.mem_of_getElem? (i := 1705) (by decide +kernel)) rfl, pv_in (List.mem_of_getElem? (i := 1707) (by decide +kernel)) rfl, pv_in (List.mem_of_getElem? (i := 74) (by decide +kernel)) rfl⟩
theorem lkX12_215 : pvLS RX12 215 mX12_w5 := ⟨pv_in (List.mem_of_getElem? (i := 1709) (by decide +kernel)) rfl, pv_in (List.mem_of_getElem? (i := 1710) (by decide +kernel)) rfl⟩
theorem lkX12_285 : pvLV RX12 285 mX12_summed := ⟨pv_in (List.mem_of_getElem? (i := 1712) (by decide +kernel)) rfl, pv_in (List.mem_of_getElem? (i := 1714) (by decide +kernel)) rfl, pv_in (List.mem_of_getElem? (i := 75) (by decide +kernel)) rfl⟩
theorem lkX12_272 : pvLV RX12 272 mX12_goesOn := ⟨pv_in (List.mem_of_getElem? (i := 1716) (by decide +kernel)) rfl, pv_in (List.mem_of_getElem? (i := 1718) (by decide +kernel)) rfl, pv_in (List.mem_of_getElem? (i := 76) (by decide +kernel)) rfl⟩
theorem lkX12_265 : pvLV RX12 265 mX12_hasParen := ⟨pv_in (List.mem_of_getElem? (i := 1720) (by decide +kernel)) rfl, pv_in (List.mem_of_getElem? (i := 1722) (by decide +kernel)) rfl, pv_in (List.mem_of_getElem? (i := 77) (by decide +kernel)) rfl⟩
theorem lkX12_275 : pvLV RX12 275 mX12_behindOne := ⟨pv_in (List.mem_of_getElem? (i := 1724) (by decide +kernel)) rfl, pv_in (List.mem_of_getElem? (i := 1726) (by decide +kernel)) rfl, pv_in (List.mem_of_getElem? (i := 78) (by decide +kernel)) rfl⟩
theorem lkX12_269 : pvLV RX12 269 mX12_settle := ⟨pv_in (List.mem_of_getElem? (i := 1728) (by decide +kernel)) rfl, pv_in (List.mem_of_getElem? (i := 1730) (by decide +kernel)) rfl, pv_in (List.mem_of_getElem? (i := 79) (by decide +kernel)) rfl⟩
theorem lkX12_235 : pvLV RX12 235 mX12_emit := ⟨pv_in (List.mem_of_getElem? (i := 1732) (by decide +kernel)) rfl, pv_in (List.mem_of_getElem? (i := 1734) (by decide +kernel)) rfl, pv_in (List.mem_of_getElem? (i := 80) (by decide +kernel)) rfl⟩
theorem lkX12_262 : pvLV RX12 262 mX12_push := ⟨pv_in (List.mem_of_getElem? (i := 1736) (by decide +kernel)) rfl, pv_in (List.mem_of_getElem? (i := 1738) (by decide +kernel)) rfl, pv_in (List.mem_of_getElem? (i := 81) (by decide +kernel)) rfl⟩
theorem lkX12_252 : pvLV RX12 252 mX12_whole := ⟨pv_in (List.mem_of_getElem? (i := 1740) (by decide +kernel)) rfl, pv_in (List.mem_of_getElem? (i := 1742) (by decide +kernel)) rfl, pv_in (List.mem_of_getElem? (i := 82) (by decide +kernel)) rfl⟩
theorem lkX12_278 : pvLV RX12 278 mX12_beginOne := ⟨pv_in (List.mem_of_getElem? (i := 1744) (by decide +kernel)) rfl, pv_in (List.mem_of_getElem? (i := 1746) (by decide +kernel)) rfl, pv_in (List.mem_of_getElem? (i := 83) (by decide +kernel)) rfl⟩
theorem lkX12_255 : pvLV RX12 255 mX12_nameOf := ⟨pv_in (List.mem_of_getElem? (i := 1748) (by decide +kernel)) rfl, pv_in (List.mem_of_getElem? (i := 1750) (by decide +kernel)) rfl, pv_in (List.mem_of_getElem? (i := 84) (by decide +kernel)) rfl⟩
theorem lkX12_238 : pvLS RX12 238 mX12_w6 := ⟨pv_in (List.mem_of_getElem? (i := 1752) (by decide +kernel)) rfl, pv_in (List.mem_of_getElem? (i := 1753) (by decide +kernel)) rfl⟩
theorem lkX12_259 : pvLV RX12 259 mX12_isBarred := ⟨pv_in (List.mem_of_getElem? (i := 1755) (by decide +kernel)) rfl, pv_in (List.mem_of_getElem? (i := 1757) (by decide +kernel)) rfl, pv_in (List.mem_of_getElem? (i := 85) (by decide +kernel)) rfl⟩
theorem lkX12_305 : pvLV RX12 305 mX12_either := ⟨pv_in (List.mem_of_getElem? (i := 1759) (by decide +kernel)) rfl, pv_in (List.mem_of_getElem? (i := 1761) (by decide +kernel)) rfl, pv_in (List.mem_of_getElem? (i := 86) (by decide +kernel)) rfl⟩
theorem lkX12_291 : pvLV RX12 291 mX12_ask := ⟨pv_in (List.mem_of_getElem? (i := 1763) (by decide +kernel)) rfl, pv_in (List.mem_of_getElem? (i := 1765) (by decide +kernel)) rfl, pv_in (List.mem_of_getElem? (i := 87) (by decide +kernel)) rfl⟩
theorem lkX12_288 : pvLV RX12 288 mX12_compareOf := ⟨pv_in (List.mem_of_getElem? (i := 1767) (by decide +kernel)) rfl, pv_in (List.mem_of_getElem? (i := 1769) (by decide +kernel)) rfl, pv_in (List.mem_of_getElem? (i := 88) (by decide +kernel)) rfl⟩
theorem lkL_141 : pvLV RL 141 mX12_fault := ⟨pv_in (List.mem_of_getElem? (i := 1772) (by decide +kernel)) rfl, pv_in (List.mem_of_getElem? (i := 1773) (by decide +kernel)) rfl, pv_in (List.mem_of_getElem? (i := 1774) (by decide +kernel)) rfl⟩
theorem lkL_145 : pvLV RL 145 mX12_force := ⟨pv_in (List.mem_of_getElem? (i := 1776) (by decide +kernel)) rfl, pv_in (List.mem_of_getElem? (i := 1777) (by decide +kernel)) rfl, pv_in (List.mem_of_getElem? (i := 1778) (by decide +kernel)) rfl⟩
theorem lkL_149 : pvLV RL 149 mX12_by := ⟨pv_in (List.mem_of_getElem? (i := 1780) (by decide +kernel)) rfl, pv_in (List.mem_of_getElem? (i := 1781) (by decide +kernel)) rfl, pv_in (List.mem_of_getElem? (i := 1782) (by decide +kernel)) rfl⟩
theorem lkX12_351 : pvLV RX12 351 mX12_shutOf := ⟨pv_in (List.mem_of_getElem? (i := 1784) (by decide +kernel)) rfl, pv_in (List.mem_of_getElem? (i := 1786) (by decide +kernel)) rfl, pv_in (List.mem_of_getElem? (i := 89) (by decide +kernel)) rfl⟩
theorem lkX12_345 : pvLV RX12 345 mX12_clauseFor := ⟨pv_in (List.mem_of_getElem? (i := 1788) (by decide +kernel)) rfl, pv_in (List.mem_of_getElem? (i := 1790) (by decide +kernel)) rfl, pv_in (List.mem_of_getElem? (i := 90) (by decide +kernel)) rfl⟩
theorem lkX12_317 : pvLV RX12 317 mX12_actFor := ⟨pv_in (List.mem_of_getElem? (i := 1792) (by decide +kernel)) rfl, pv_in (List.mem_of_getElem? (i := 1794) (by decide +kernel)) rfl, pv_in (List.mem_of_getElem? (i := 91) (by decide +kernel)) rfl⟩
theorem lkX12_314 : pvLV RX12 314 mX12_clauseOf := ⟨pv_in (List.mem_of_getElem? (i := 1796) (by decide +kernel)) rfl, pv_in (List.mem_of_getElem? (i := 1798) (by decide +kernel)) rfl, pv_in (List.mem_of_getElem? (i := 92) (by decide +kernel)) rfl⟩
theorem lkX12_348 : pvLV RX12 348 mX12_isShut := ⟨pv_in (List.mem_of_getElem? (i := 1800) (by decide +kernel)) rfl, pv_in (List.mem_of_getElem? (i := 1802) (by decide +kernel)) rfl, pv_in (List.mem_of_getElem? (i := 93) (by decide +kernel)) rfl⟩
theorem lkX12_339 : pvLV RX12 339 mX12_name := ⟨pv_in (List.mem_of_getElem? (i := 1804) (by decide +kernel)) rfl, pv_in (List.mem_of_getElem? (i := 1806) (by decide +kernel)) rfl, pv_in (List.mem_of_getElem? (i := 94) (by decide +kernel)) rfl⟩
theorem lkX12_336 : pvLV RX12 336 mX12_peopleOf := ⟨pv_in (List.mem_of_getElem? (i := 1808) (by decide +kernel)) rfl, pv_in (List.mem_of_getElem? (i := 1810) (by decide +kernel)) rfl, pv_in (List.mem_of_getElem? (i := 95) (by decide +kernel)) rfl⟩
theorem lkX12_342 : pvLV RX12 342 mX12_work := ⟨pv_in (List.mem_of_getElem? (i := 1812) (by decide +kernel)) rfl, pv_in (List.mem_of_getElem? (i := 1814) (by decide +kernel)) rfl, pv_in (List.mem_of_getElem? (i := 96) (by decide +kernel)) rfl⟩
theorem lkX12_328 : pvLS RX12 328 mX12_two := ⟨pv_in (List.mem_of_getElem? (i := 1816) (by decide +kernel)) rfl, pv_in (List.mem_of_getElem? (i := 1817) (by decide +kernel)) rfl⟩
theorem lkX12_324 : pvLS RX12 324 mX12_clip := ⟨pv_in (List.mem_of_getElem? (i := 1819) (by decide +kernel)) rfl, pv_in (List.mem_of_getElem? (i := 1820) (by decide +kernel)) rfl⟩
theorem lkX12_332 : pvLS RX12 332 mX12_isAsked := ⟨pv_in (List.mem_of_getElem? (i := 1824) (by decide +kernel)) rfl, pv_in (List.mem_of_getElem? (i := 1825) (by decide +kernel)) rfl⟩
theorem lkX12_354 : pvLV RX12 354 mX12_worthOf := ⟨pv_in (List.mem_of_getElem? (i := 1827) (by decide +kernel)) rfl, pv_in (List.mem_of_getElem? (i := 1829) (by decide +kernel)) rfl, pv_in (List.mem_of_getElem? (i := 97) (by decide +kernel)) rfl⟩
theorem lkL_153 : pvLV RL 153 mX12_whose := ⟨pv_in (List.mem_of_getElem? (i := 1831) (by decide +kernel)) rfl, pv_in (List.mem_of_getElem? (i := 1832) (by decide +kernel)) rfl, pv_in (List.mem_of_getElem? (i := 1833) (by decide +kernel)) rfl⟩
theorem lkL_157 : pvLV RL 157 mX12_vote := ⟨pv_in (List.mem_of_getElem? (i := 1835) (by decide +kernel)) rfl, pv_in (List.mem_of_getElem? (i := 1836) (by decide +kernel)) rfl, pv_in (List.mem_of_getElem? (i := 1837) (by decide +kernel)) rfl⟩
theorem lkX12_363 : pvLV RX12 363 mX12_count := ⟨pv_in (List.mem_of_getElem? (i := 1839) (by decide +kernel)) rfl, pv_in (List.mem_of_getElem? (i := 1841) (by decide +kernel)) rfl, pv_in (List.mem_of_getElem? (i := 98) (by decide +kernel)) rfl⟩
theorem lkX12_366 : pvLV RX12 366 mX12_gift := ⟨pv_in (List.mem_of_getElem? (i := 1843) (by decide +kernel)) rfl, pv_in (List.mem_of_getElem? (i := 1845) (by decide +kernel)) rfl, pv_in (List.mem_of_getElem? (i := 99) (by decide +kernel)) rfl⟩
theorem lkL_161 : pvLV RL 161 mX12_place := ⟨pv_in (List.mem_of_getElem? (i := 1847) (by decide +kernel)) rfl, pv_in (List.mem_of_getElem? (i := 1848) (by decide +kernel)) rfl, pv_in (List.mem_of_getElem? (i := 1849) (by decide +kernel)) rfl⟩
theorem lkL_165 : pvLV RL 165 mX12_best := ⟨pv_in (List.mem_of_getElem? (i := 1851) (by decide +kernel)) rfl, pv_in (List.mem_of_getElem? (i := 1852) (by decide +kernel)) rfl, pv_in (List.mem_of_getElem? (i := 1853) (by decide +kernel)) rfl⟩
theorem lkL_169 : pvLV RL 169 mX12_image := ⟨pv_in (List.mem_of_getElem? (i := 1856) (by decide +kernel)) rfl, pv_in (List.mem_of_getElem? (i := 1857) (by decide +kernel)) rfl, pv_in (List.mem_of_getElem? (i := 1858) (by decide +kernel)) rfl⟩
theorem lkL_173 : pvLV RL 173 mX12_back := ⟨pv_in (List.mem_of_getElem? (i := 1860) (by decide +kernel)) rfl, pv_in (List.mem_of_getElem? (i := 1861) (by decide +kernel)) rfl, pv_in (List.mem_of_getElem? (i := 1862) (by decide +kernel)) rfl⟩
theorem lkL_177 : pvLV RL 177 mX12_about := ⟨pv_in (List.mem_of_getElem? (i := 1864) (by decide +kernel)) rfl, pv_in (List.mem_of_getElem? (i := 1865) (by decide +kernel)) rfl, pv_in (List.mem_of_getElem? (i := 1866) (by decide +kernel)) rfl⟩
theorem lkX10_24 : pvNI RX10 24 mX9_init := ⟨⟨"SeamFire", List.mem_of_getElem? (i := 229) (by decide +kernel)⟩, pv_in (List.mem_of_getElem? (i := 230) (by decide +kernel)) rfl, rfl⟩
theorem lkX10_31 : pvNI RX10 31 mX4_init := ⟨⟨"SeamFire", List.mem_of_getElem? (i := 278) (by decide +kernel)⟩, pv_in (List.mem_of_getElem? (i := 279) (by decide +kernel)) rfl, rfl⟩
theorem lkX10_38 : pvNI RX10 38 mX7_init := ⟨⟨"SeamFire", List.mem_of_getElem? (i := 317) (by decide +kernel)⟩, pv_in (List.mem_of_getElem? (i := 318) (by decide +kernel)) rfl, rfl⟩
theorem lkX10_45 : pvNI RX10 45 mX5_init := ⟨⟨"SeamFire", List.mem_of_getElem? (i := 379) (by decide +kernel)⟩, pv_in (List.mem_of_getElem? (i := 380) (by decide +kernel)) rfl, rfl⟩
theorem lkX10_52 : pvNI RX10 52 mX8_init := ⟨⟨"SeamFire", List.mem_of_getElem? (i := 406) (by decide +kernel)⟩, pv_in (List.mem_of_getElem? (i := 407) (by decide +kernel)) rfl, rfl⟩
theorem lkX11_45 : pvNI RX11 45 mX1_init := ⟨⟨"SeamFire", List.mem_of_getElem? (i := 476) (by decide +kernel)⟩, pv_in (List.mem_of_getElem? (i := 477) (by decide +kernel)) rfl, rfl⟩
theorem lkX11_52 : pvNI RX11 52 mX6_init := ⟨⟨"SeamFire", List.mem_of_getElem? (i := 535) (by decide +kernel)⟩, pv_in (List.mem_of_getElem? (i := 536) (by decide +kernel)) rfl, rfl⟩
theorem lkX11_63 : pvNI RX11 63 mX0_init := ⟨⟨"SeamFire", List.mem_of_getElem? (i := 582) (by decide +kernel)⟩, pv_in (List.mem_of_getElem? (i := 583) (by decide +kernel)) rfl, rfl⟩
theorem lkX3_55 : pvNS RX3 55 mX11_bit := ⟨⟨"SeamFire", List.mem_of_getElem? (i := 656) (by decide +kernel)⟩, pv_in (List.mem_of_getElem? (i := 657) (by decide +kernel)) rfl⟩
theorem lkX9_64 : pvNS RX9 64 mX11_bit := ⟨⟨"SeamFire", List.mem_of_getElem? (i := 693) (by decide +kernel)⟩, pv_in (List.mem_of_getElem? (i := 657) (by decide +kernel)) rfl⟩
theorem lkX3_75 : pvNS RX3 75 mX11_lowest := ⟨⟨"SeamFire", List.mem_of_getElem? (i := 722) (by decide +kernel)⟩, pv_in (List.mem_of_getElem? (i := 723) (by decide +kernel)) rfl⟩
theorem lkX1_102 : pvNS RX1 102 mX11_bit := ⟨⟨"SeamFire", List.mem_of_getElem? (i := 809) (by decide +kernel)⟩, pv_in (List.mem_of_getElem? (i := 657) (by decide +kernel)) rfl⟩
theorem lkX1_115 : pvNS RX1 115 mX11_lowest := ⟨⟨"SeamFire", List.mem_of_getElem? (i := 810) (by decide +kernel)⟩, pv_in (List.mem_of_getElem? (i := 723) (by decide +kernel)) rfl⟩
theorem lkX6_102 : pvNS RX6 102 mX11_isIn := ⟨⟨"SeamFire", List.mem_of_getElem? (i := 1112) (by decide +kernel)⟩, pv_in (List.mem_of_getElem? (i := 887) (by decide +kernel)) rfl⟩
theorem lkX8_37 : pvNS RX8 37 mX11_isIn := ⟨⟨"SeamFire", List.mem_of_getElem? (i := 1267) (by decide +kernel)⟩, pv_in (List.mem_of_getElem? (i := 887) (by decide +kernel)) rfl⟩
theorem lkX8_41 : pvNS RX8 41 mX11_bit := ⟨⟨"SeamFire", List.mem_of_getElem? (i := 1272) (by decide +kernel)⟩, pv_in (List.mem_of_getElem? (i := 657) (by decide +kernel)) rfl⟩
theorem fdX2_7 : pvFd RX2 7 2 0 := ⟨RX2, TX2, 6, rfl, inX2, by decide, pv_in (List.mem_of_getElem? (i := 143) (by decide +kernel)) rfl, tyX2_ok, nmX2, rfl⟩
theorem fdX11_420 : pvFd RX11 420 2 0 := ⟨RX2, TX2, 6, rfl, inX2, by decide, pv_in (List.mem_of_getElem? (i := 144) (by decide +kernel)) rfl, tyX2_ok, nmX2, rfl⟩
theorem fdX2_13 : pvFd RX2 13 2 1 := ⟨RX2, TX2, 6, rfl, inX2, by decide, pv_in (List.mem_of_getElem? (i := 145) (by decide +kernel)) rfl, tyX2_ok, nmX2, rfl⟩
theorem fdX11_423 : pvFd RX11 423 2 1 := ⟨RX2, TX2, 6, rfl, inX2, by decide, pv_in (List.mem_of_getElem? (i := 146) (by decide +kernel)) rfl, tyX2_ok, nmX2, rfl⟩
theorem fdX2_16 : pvFd RX2 16 2 2 := ⟨RX2, TX2, 6, rfl, inX2, by decide, pv_in (List.mem_of_getElem? (i := 147) (by decide +kernel)) rfl, tyX2_ok, nmX2, rfl⟩
theorem fdX3_85 : pvFd RX3 85 2 2 := ⟨RX2, TX2, 6, rfl, inX2, by decide, pv_in (List.mem_of_getElem? (i := 148) (by decide +kernel)) rfl, tyX2_ok, nmX2, rfl⟩
theorem fdX11_274 : pvFd RX11 274 2 2 := ⟨RX2, TX2, 6, rfl, inX2, by decide, pv_in (List.mem_of_getElem? (i := 149) (by decide +kernel)) rfl, tyX2_ok, nmX2, rfl⟩
theorem fdX2_19 : pvFd RX2 19 2 3 := ⟨RX2, TX2, 6, rfl, inX2, by decide, pv_in (List.mem_of_getElem? (i := 150) (by decide +kernel)) rfl, tyX2_ok, nmX2, rfl⟩
theorem fdX2_25 : pvFd RX2 25 2 4 := ⟨RX2, TX2, 6, rfl, inX2, by decide, pv_in (List.mem_of_getElem? (i := 151) (by decide +kernel)) rfl, tyX2_ok, nmX2, rfl⟩
theorem fdX2_28 : pvFd RX2 28 2 5 := ⟨RX2, TX2, 6, rfl, inX2, by decide, pv_in (List.mem_of_getElem? (i := 152) (by decide +kernel)) rfl, tyX2_ok, nmX2, rfl⟩
theorem fdX3_35 : pvFd RX3 35 3 0 := ⟨RX3, TX3, 11, rfl, inX3, by decide, pv_in (List.mem_of_getElem? (i := 178) (by decide +kernel)) rfl, tyX3_ok, nmX3, rfl⟩
theorem fdX3_9 : pvFd RX3 9 3 1 := ⟨RX3, TX3, 11, rfl, inX3, by decide, pv_in (List.mem_of_getElem? (i := 179) (by decide +kernel)) rfl, tyX3_ok, nmX3, rfl⟩
theorem fdX11_172 : pvFd RX11 172 3 1 := ⟨RX3, TX3, 11, rfl, inX3, by decide, pv_in (List.mem_of_getElem? (i := 180) (by decide +kernel)) rfl, tyX3_ok, nmX3, rfl⟩
theorem fdX3_15 : pvFd RX3 15 3 2 := ⟨RX3, TX3, 11, rfl, inX3, by decide, pv_in (List.mem_of_getElem? (i := 181) (by decide +kernel)) rfl, tyX3_ok, nmX3, rfl⟩
theorem fdX1_93 : pvFd RX1 93 3 2 := ⟨RX3, TX3, 11, rfl, inX3, by decide, pv_in (List.mem_of_getElem? (i := 182) (by decide +kernel)) rfl, tyX3_ok, nmX3, rfl⟩
theorem fdX3_18 : pvFd RX3 18 3 3 := ⟨RX3, TX3, 11, rfl, inX3, by decide, pv_in (List.mem_of_getElem? (i := 183) (by decide +kernel)) rfl, tyX3_ok, nmX3, rfl⟩
theorem fdX11_143 : pvFd RX11 143 3 3 := ⟨RX3, TX3, 11, rfl, inX3, by decide, pv_in (List.mem_of_getElem? (i := 184) (by decide +kernel)) rfl, tyX3_ok, nmX3, rfl⟩
theorem fdX3_21 : pvFd RX3 21 3 4 := ⟨RX3, TX3, 11, rfl, inX3, by decide, pv_in (List.mem_of_getElem? (i := 185) (by decide +kernel)) rfl, tyX3_ok, nmX3, rfl⟩
theorem fdX1_128 : pvFd RX1 128 3 4 := ⟨RX3, TX3, 11, rfl, inX3, by decide, pv_in (List.mem_of_getElem? (i := 186) (by decide +kernel)) rfl, tyX3_ok, nmX3, rfl⟩
theorem fdX3_45 : pvFd RX3 45 3 5 := ⟨RX3, TX3, 11, rfl, inX3, by decide, pv_in (List.mem_of_getElem? (i := 187) (by decide +kernel)) rfl, tyX3_ok, nmX3, rfl⟩
theorem fdX1_134 : pvFd RX1 134 3 5 := ⟨RX3, TX3, 11, rfl, inX3, by decide, pv_in (List.mem_of_getElem? (i := 188) (by decide +kernel)) rfl, tyX3_ok, nmX3, rfl⟩
theorem fdX3_49 : pvFd RX3 49 3 6 := ⟨RX3, TX3, 11, rfl, inX3, by decide, pv_in (List.mem_of_getElem? (i := 189) (by decide +kernel)) rfl, tyX3_ok, nmX3, rfl⟩
theorem fdX1_96 : pvFd RX1 96 3 6 := ⟨RX3, TX3, 11, rfl, inX3, by decide, pv_in (List.mem_of_getElem? (i := 190) (by decide +kernel)) rfl, tyX3_ok, nmX3, rfl⟩
theorem fdX3_52 : pvFd RX3 52 3 7 := ⟨RX3, TX3, 11, rfl, inX3, by decide, pv_in (List.mem_of_getElem? (i := 191) (by decide +kernel)) rfl, tyX3_ok, nmX3, rfl⟩
theorem fdX11_136 : pvFd RX11 136 3 7 := ⟨RX3, TX3, 11, rfl, inX3, by decide, pv_in (List.mem_of_getElem? (i := 192) (by decide +kernel)) rfl, tyX3_ok, nmX3, rfl⟩
theorem fdX3_25 : pvFd RX3 25 3 8 := ⟨RX3, TX3, 11, rfl, inX3, by decide, pv_in (List.mem_of_getElem? (i := 193) (by decide +kernel)) rfl, tyX3_ok, nmX3, rfl⟩
theorem fdX11_103 : pvFd RX11 103 3 8 := ⟨RX3, TX3, 11, rfl, inX3, by decide, pv_in (List.mem_of_getElem? (i := 194) (by decide +kernel)) rfl, tyX3_ok, nmX3, rfl⟩
theorem fdX1_177 : pvFd RX1 177 3 8 := ⟨RX3, TX3, 11, rfl, inX3, by decide, pv_in (List.mem_of_getElem? (i := 195) (by decide +kernel)) rfl, tyX3_ok, nmX3, rfl⟩
theorem fdX3_29 : pvFd RX3 29 3 9 := ⟨RX3, TX3, 11, rfl, inX3, by decide, pv_in (List.mem_of_getElem? (i := 196) (by decide +kernel)) rfl, tyX3_ok, nmX3, rfl⟩
theorem fdX11_106 : pvFd RX11 106 3 9 := ⟨RX3, TX3, 11, rfl, inX3, by decide, pv_in (List.mem_of_getElem? (i := 197) (by decide +kernel)) rfl, tyX3_ok, nmX3, rfl⟩
theorem fdX1_165 : pvFd RX1 165 3 9 := ⟨RX3, TX3, 11, rfl, inX3, by decide, pv_in (List.mem_of_getElem? (i := 198) (by decide +kernel)) rfl, tyX3_ok, nmX3, rfl⟩
theorem fdX3_32 : pvFd RX3 32 3 10 := ⟨RX3, TX3, 11, rfl, inX3, by decide, pv_in (List.mem_of_getElem? (i := 199) (by decide +kernel)) rfl, tyX3_ok, nmX3, rfl⟩
theorem fdX11_109 : pvFd RX11 109 3 10 := ⟨RX3, TX3, 11, rfl, inX3, by decide, pv_in (List.mem_of_getElem? (i := 200) (by decide +kernel)) rfl, tyX3_ok, nmX3, rfl⟩
theorem fdX1_144 : pvFd RX1 144 3 10 := ⟨RX3, TX3, 11, rfl, inX3, by decide, pv_in (List.mem_of_getElem? (i := 201) (by decide +kernel)) rfl, tyX3_ok, nmX3, rfl⟩
theorem fdX9_43 : pvFd RX9 43 9 0 := ⟨RX9, TX9, 12, rfl, inX9, by decide, pv_in (List.mem_of_getElem? (i := 233) (by decide +kernel)) rfl, tyX9_ok, nmX9, rfl⟩
theorem fdX11_116 : pvFd RX11 116 9 0 := ⟨RX9, TX9, 12, rfl, inX9, by decide, pv_in (List.mem_of_getElem? (i := 234) (by decide +kernel)) rfl, tyX9_ok, nmX9, rfl⟩
theorem fdX9_11 : pvFd RX9 11 9 1 := ⟨RX9, TX9, 12, rfl, inX9, by decide, pv_in (List.mem_of_getElem? (i := 235) (by decide +kernel)) rfl, tyX9_ok, nmX9, rfl⟩
theorem fdX9_15 : pvFd RX9 15 9 2 := ⟨RX9, TX9, 12, rfl, inX9, by decide, pv_in (List.mem_of_getElem? (i := 236) (by decide +kernel)) rfl, tyX9_ok, nmX9, rfl⟩
theorem fdX9_18 : pvFd RX9 18 9 3 := ⟨RX9, TX9, 12, rfl, inX9, by decide, pv_in (List.mem_of_getElem? (i := 237) (by decide +kernel)) rfl, tyX9_ok, nmX9, rfl⟩
theorem fdX11_127 : pvFd RX11 127 9 3 := ⟨RX9, TX9, 12, rfl, inX9, by decide, pv_in (List.mem_of_getElem? (i := 238) (by decide +kernel)) rfl, tyX9_ok, nmX9, rfl⟩
theorem fdX9_21 : pvFd RX9 21 9 4 := ⟨RX9, TX9, 12, rfl, inX9, by decide, pv_in (List.mem_of_getElem? (i := 239) (by decide +kernel)) rfl, tyX9_ok, nmX9, rfl⟩
theorem fdX1_137 : pvFd RX1 137 9 4 := ⟨RX9, TX9, 12, rfl, inX9, by decide, pv_in (List.mem_of_getElem? (i := 240) (by decide +kernel)) rfl, tyX9_ok, nmX9, rfl⟩
theorem fdX9_53 : pvFd RX9 53 9 5 := ⟨RX9, TX9, 12, rfl, inX9, by decide, pv_in (List.mem_of_getElem? (i := 241) (by decide +kernel)) rfl, tyX9_ok, nmX9, rfl⟩
theorem fdX11_149 : pvFd RX11 149 9 5 := ⟨RX9, TX9, 12, rfl, inX9, by decide, pv_in (List.mem_of_getElem? (i := 242) (by decide +kernel)) rfl, tyX9_ok, nmX9, rfl⟩
theorem fdX9_25 : pvFd RX9 25 9 6 := ⟨RX9, TX9, 12, rfl, inX9, by decide, pv_in (List.mem_of_getElem? (i := 243) (by decide +kernel)) rfl, tyX9_ok, nmX9, rfl⟩
theorem fdX9_28 : pvFd RX9 28 9 7 := ⟨RX9, TX9, 12, rfl, inX9, by decide, pv_in (List.mem_of_getElem? (i := 244) (by decide +kernel)) rfl, tyX9_ok, nmX9, rfl⟩
theorem fdX9_31 : pvFd RX9 31 9 8 := ⟨RX9, TX9, 12, rfl, inX9, by decide, pv_in (List.mem_of_getElem? (i := 245) (by decide +kernel)) rfl, tyX9_ok, nmX9, rfl⟩
theorem fdX11_434 : pvFd RX11 434 9 8 := ⟨RX9, TX9, 12, rfl, inX9, by decide, pv_in (List.mem_of_getElem? (i := 246) (by decide +kernel)) rfl, tyX9_ok, nmX9, rfl⟩
theorem fdX9_34 : pvFd RX9 34 9 9 := ⟨RX9, TX9, 12, rfl, inX9, by decide, pv_in (List.mem_of_getElem? (i := 247) (by decide +kernel)) rfl, tyX9_ok, nmX9, rfl⟩
theorem fdX9_37 : pvFd RX9 37 9 10 := ⟨RX9, TX9, 12, rfl, inX9, by decide, pv_in (List.mem_of_getElem? (i := 248) (by decide +kernel)) rfl, tyX9_ok, nmX9, rfl⟩
theorem fdX9_40 : pvFd RX9 40 9 11 := ⟨RX9, TX9, 12, rfl, inX9, by decide, pv_in (List.mem_of_getElem? (i := 249) (by decide +kernel)) rfl, tyX9_ok, nmX9, rfl⟩
theorem fdX1_110 : pvFd RX1 110 9 11 := ⟨RX9, TX9, 12, rfl, inX9, by decide, pv_in (List.mem_of_getElem? (i := 250) (by decide +kernel)) rfl, tyX9_ok, nmX9, rfl⟩
theorem fdX4_30 : pvFd RX4 30 4 0 := ⟨RX4, TX4, 8, rfl, inX4, by decide, pv_in (List.mem_of_getElem? (i := 282) (by decide +kernel)) rfl, tyX4_ok, nmX4, rfl⟩
theorem fdX11_167 : pvFd RX11 167 4 0 := ⟨RX4, TX4, 8, rfl, inX4, by decide, pv_in (List.mem_of_getElem? (i := 283) (by decide +kernel)) rfl, tyX4_ok, nmX4, rfl⟩
theorem fdX4_9 : pvFd RX4 9 4 1 := ⟨RX4, TX4, 8, rfl, inX4, by decide, pv_in (List.mem_of_getElem? (i := 284) (by decide +kernel)) rfl, tyX4_ok, nmX4, rfl⟩
theorem fdX11_223 : pvFd RX11 223 4 1 := ⟨RX4, TX4, 8, rfl, inX4, by decide, pv_in (List.mem_of_getElem? (i := 285) (by decide +kernel)) rfl, tyX4_ok, nmX4, rfl⟩
theorem fdX4_15 : pvFd RX4 15 4 2 := ⟨RX4, TX4, 8, rfl, inX4, by decide, pv_in (List.mem_of_getElem? (i := 286) (by decide +kernel)) rfl, tyX4_ok, nmX4, rfl⟩
theorem fdX11_226 : pvFd RX11 226 4 2 := ⟨RX4, TX4, 8, rfl, inX4, by decide, pv_in (List.mem_of_getElem? (i := 287) (by decide +kernel)) rfl, tyX4_ok, nmX4, rfl⟩
theorem fdX4_40 : pvFd RX4 40 4 3 := ⟨RX4, TX4, 8, rfl, inX4, by decide, pv_in (List.mem_of_getElem? (i := 288) (by decide +kernel)) rfl, tyX4_ok, nmX4, rfl⟩
theorem fdX11_255 : pvFd RX11 255 4 3 := ⟨RX4, TX4, 8, rfl, inX4, by decide, pv_in (List.mem_of_getElem? (i := 289) (by decide +kernel)) rfl, tyX4_ok, nmX4, rfl⟩
theorem fdX4_18 : pvFd RX4 18 4 4 := ⟨RX4, TX4, 8, rfl, inX4, by decide, pv_in (List.mem_of_getElem? (i := 290) (by decide +kernel)) rfl, tyX4_ok, nmX4, rfl⟩
theorem fdX11_452 : pvFd RX11 452 4 4 := ⟨RX4, TX4, 8, rfl, inX4, by decide, pv_in (List.mem_of_getElem? (i := 291) (by decide +kernel)) rfl, tyX4_ok, nmX4, rfl⟩
theorem fdX4_21 : pvFd RX4 21 4 5 := ⟨RX4, TX4, 8, rfl, inX4, by decide, pv_in (List.mem_of_getElem? (i := 292) (by decide +kernel)) rfl, tyX4_ok, nmX4, rfl⟩
theorem fdX11_449 : pvFd RX11 449 4 5 := ⟨RX4, TX4, 8, rfl, inX4, by decide, pv_in (List.mem_of_getElem? (i := 293) (by decide +kernel)) rfl, tyX4_ok, nmX4, rfl⟩
theorem fdX4_24 : pvFd RX4 24 4 6 := ⟨RX4, TX4, 8, rfl, inX4, by decide, pv_in (List.mem_of_getElem? (i := 294) (by decide +kernel)) rfl, tyX4_ok, nmX4, rfl⟩
theorem fdX11_455 : pvFd RX11 455 4 6 := ⟨RX4, TX4, 8, rfl, inX4, by decide, pv_in (List.mem_of_getElem? (i := 295) (by decide +kernel)) rfl, tyX4_ok, nmX4, rfl⟩
theorem fdX4_27 : pvFd RX4 27 4 7 := ⟨RX4, TX4, 8, rfl, inX4, by decide, pv_in (List.mem_of_getElem? (i := 296) (by decide +kernel)) rfl, tyX4_ok, nmX4, rfl⟩
theorem fdX11_446 : pvFd RX11 446 4 7 := ⟨RX4, TX4, 8, rfl, inX4, by decide, pv_in (List.mem_of_getElem? (i := 297) (by decide +kernel)) rfl, tyX4_ok, nmX4, rfl⟩
theorem fdX7_45 : pvFd RX7 45 7 0 := ⟨RX7, TX7, 14, rfl, inX7, by decide, pv_in (List.mem_of_getElem? (i := 321) (by decide +kernel)) rfl, tyX7_ok, nmX7, rfl⟩
theorem fdX11_281 : pvFd RX11 281 7 0 := ⟨RX7, TX7, 14, rfl, inX7, by decide, pv_in (List.mem_of_getElem? (i := 322) (by decide +kernel)) rfl, tyX7_ok, nmX7, rfl⟩
theorem fdX7_11 : pvFd RX7 11 7 1 := ⟨RX7, TX7, 14, rfl, inX7, by decide, pv_in (List.mem_of_getElem? (i := 323) (by decide +kernel)) rfl, tyX7_ok, nmX7, rfl⟩
theorem fdX11_461 : pvFd RX11 461 7 1 := ⟨RX7, TX7, 14, rfl, inX7, by decide, pv_in (List.mem_of_getElem? (i := 324) (by decide +kernel)) rfl, tyX7_ok, nmX7, rfl⟩
theorem fdX7_15 : pvFd RX7 15 7 2 := ⟨RX7, TX7, 14, rfl, inX7, by decide, pv_in (List.mem_of_getElem? (i := 325) (by decide +kernel)) rfl, tyX7_ok, nmX7, rfl⟩
theorem fdX11_458 : pvFd RX11 458 7 2 := ⟨RX7, TX7, 14, rfl, inX7, by decide, pv_in (List.mem_of_getElem? (i := 326) (by decide +kernel)) rfl, tyX7_ok, nmX7, rfl⟩
theorem fdX7_18 : pvFd RX7 18 7 3 := ⟨RX7, TX7, 14, rfl, inX7, by decide, pv_in (List.mem_of_getElem? (i := 327) (by decide +kernel)) rfl, tyX7_ok, nmX7, rfl⟩
theorem fdX11_488 : pvFd RX11 488 7 3 := ⟨RX7, TX7, 14, rfl, inX7, by decide, pv_in (List.mem_of_getElem? (i := 328) (by decide +kernel)) rfl, tyX7_ok, nmX7, rfl⟩
theorem fdX7_21 : pvFd RX7 21 7 4 := ⟨RX7, TX7, 14, rfl, inX7, by decide, pv_in (List.mem_of_getElem? (i := 329) (by decide +kernel)) rfl, tyX7_ok, nmX7, rfl⟩
theorem fdX11_309 : pvFd RX11 309 7 4 := ⟨RX7, TX7, 14, rfl, inX7, by decide, pv_in (List.mem_of_getElem? (i := 330) (by decide +kernel)) rfl, tyX7_ok, nmX7, rfl⟩
theorem fdX7_24 : pvFd RX7 24 7 5 := ⟨RX7, TX7, 14, rfl, inX7, by decide, pv_in (List.mem_of_getElem? (i := 331) (by decide +kernel)) rfl, tyX7_ok, nmX7, rfl⟩
theorem fdX11_312 : pvFd RX11 312 7 5 := ⟨RX7, TX7, 14, rfl, inX7, by decide, pv_in (List.mem_of_getElem? (i := 332) (by decide +kernel)) rfl, tyX7_ok, nmX7, rfl⟩
theorem fdX7_55 : pvFd RX7 55 7 6 := ⟨RX7, TX7, 14, rfl, inX7, by decide, pv_in (List.mem_of_getElem? (i := 333) (by decide +kernel)) rfl, tyX7_ok, nmX7, rfl⟩
theorem fdX11_294 : pvFd RX11 294 7 6 := ⟨RX7, TX7, 14, rfl, inX7, by decide, pv_in (List.mem_of_getElem? (i := 334) (by decide +kernel)) rfl, tyX7_ok, nmX7, rfl⟩
theorem fdX7_27 : pvFd RX7 27 7 7 := ⟨RX7, TX7, 14, rfl, inX7, by decide, pv_in (List.mem_of_getElem? (i := 335) (by decide +kernel)) rfl, tyX7_ok, nmX7, rfl⟩
theorem fdX11_504 : pvFd RX11 504 7 7 := ⟨RX7, TX7, 14, rfl, inX7, by decide, pv_in (List.mem_of_getElem? (i := 336) (by decide +kernel)) rfl, tyX7_ok, nmX7, rfl⟩
theorem fdX7_30 : pvFd RX7 30 7 8 := ⟨RX7, TX7, 14, rfl, inX7, by decide, pv_in (List.mem_of_getElem? (i := 337) (by decide +kernel)) rfl, tyX7_ok, nmX7, rfl⟩
theorem fdX11_510 : pvFd RX11 510 7 8 := ⟨RX7, TX7, 14, rfl, inX7, by decide, pv_in (List.mem_of_getElem? (i := 338) (by decide +kernel)) rfl, tyX7_ok, nmX7, rfl⟩
theorem fdX7_33 : pvFd RX7 33 7 9 := ⟨RX7, TX7, 14, rfl, inX7, by decide, pv_in (List.mem_of_getElem? (i := 339) (by decide +kernel)) rfl, tyX7_ok, nmX7, rfl⟩
theorem fdX11_507 : pvFd RX11 507 7 9 := ⟨RX7, TX7, 14, rfl, inX7, by decide, pv_in (List.mem_of_getElem? (i := 340) (by decide +kernel)) rfl, tyX7_ok, nmX7, rfl⟩
theorem fdX7_36 : pvFd RX7 36 7 10 := ⟨RX7, TX7, 14, rfl, inX7, by decide, pv_in (List.mem_of_getElem? (i := 341) (by decide +kernel)) rfl, tyX7_ok, nmX7, rfl⟩
theorem fdX11_303 : pvFd RX11 303 7 10 := ⟨RX7, TX7, 14, rfl, inX7, by decide, pv_in (List.mem_of_getElem? (i := 342) (by decide +kernel)) rfl, tyX7_ok, nmX7, rfl⟩
theorem fdX7_39 : pvFd RX7 39 7 11 := ⟨RX7, TX7, 14, rfl, inX7, by decide, pv_in (List.mem_of_getElem? (i := 343) (by decide +kernel)) rfl, tyX7_ok, nmX7, rfl⟩
theorem fdX11_318 : pvFd RX11 318 7 11 := ⟨RX7, TX7, 14, rfl, inX7, by decide, pv_in (List.mem_of_getElem? (i := 344) (by decide +kernel)) rfl, tyX7_ok, nmX7, rfl⟩
theorem fdX7_42 : pvFd RX7 42 7 12 := ⟨RX7, TX7, 14, rfl, inX7, by decide, pv_in (List.mem_of_getElem? (i := 345) (by decide +kernel)) rfl, tyX7_ok, nmX7, rfl⟩
theorem fdX7_58 : pvFd RX7 58 7 13 := ⟨RX7, TX7, 14, rfl, inX7, by decide, pv_in (List.mem_of_getElem? (i := 346) (by decide +kernel)) rfl, tyX7_ok, nmX7, rfl⟩
theorem fdX11_315 : pvFd RX11 315 7 13 := ⟨RX7, TX7, 14, rfl, inX7, by decide, pv_in (List.mem_of_getElem? (i := 347) (by decide +kernel)) rfl, tyX7_ok, nmX7, rfl⟩
theorem fdX5_19 : pvFd RX5 19 5 0 := ⟨RX5, TX5, 5, rfl, inX5, by decide, pv_in (List.mem_of_getElem? (i := 383) (by decide +kernel)) rfl, tyX5_ok, nmX5, rfl⟩
theorem fdX11_337 : pvFd RX11 337 5 0 := ⟨RX5, TX5, 5, rfl, inX5, by decide, pv_in (List.mem_of_getElem? (i := 384) (by decide +kernel)) rfl, tyX5_ok, nmX5, rfl⟩
theorem fdX5_23 : pvFd RX5 23 5 1 := ⟨RX5, TX5, 5, rfl, inX5, by decide, pv_in (List.mem_of_getElem? (i := 385) (by decide +kernel)) rfl, tyX5_ok, nmX5, rfl⟩
theorem fdX11_352 : pvFd RX11 352 5 1 := ⟨RX5, TX5, 5, rfl, inX5, by decide, pv_in (List.mem_of_getElem? (i := 386) (by decide +kernel)) rfl, tyX5_ok, nmX5, rfl⟩
theorem fdX5_9 : pvFd RX5 9 5 2 := ⟨RX5, TX5, 5, rfl, inX5, by decide, pv_in (List.mem_of_getElem? (i := 387) (by decide +kernel)) rfl, tyX5_ok, nmX5, rfl⟩
theorem fdX11_482 : pvFd RX11 482 5 2 := ⟨RX5, TX5, 5, rfl, inX5, by decide, pv_in (List.mem_of_getElem? (i := 388) (by decide +kernel)) rfl, tyX5_ok, nmX5, rfl⟩
theorem fdX5_13 : pvFd RX5 13 5 3 := ⟨RX5, TX5, 5, rfl, inX5, by decide, pv_in (List.mem_of_getElem? (i := 389) (by decide +kernel)) rfl, tyX5_ok, nmX5, rfl⟩
theorem fdX11_476 : pvFd RX11 476 5 3 := ⟨RX5, TX5, 5, rfl, inX5, by decide, pv_in (List.mem_of_getElem? (i := 390) (by decide +kernel)) rfl, tyX5_ok, nmX5, rfl⟩
theorem fdX5_16 : pvFd RX5 16 5 4 := ⟨RX5, TX5, 5, rfl, inX5, by decide, pv_in (List.mem_of_getElem? (i := 391) (by decide +kernel)) rfl, tyX5_ok, nmX5, rfl⟩
theorem fdX11_479 : pvFd RX11 479 5 4 := ⟨RX5, TX5, 5, rfl, inX5, by decide, pv_in (List.mem_of_getElem? (i := 392) (by decide +kernel)) rfl, tyX5_ok, nmX5, rfl⟩
theorem fdX8_25 : pvFd RX8 25 8 0 := ⟨RX8, TX8, 8, rfl, inX8, by decide, pv_in (List.mem_of_getElem? (i := 410) (by decide +kernel)) rfl, tyX8_ok, nmX8, rfl⟩
theorem fdX11_391 : pvFd RX11 391 8 0 := ⟨RX8, TX8, 8, rfl, inX8, by decide, pv_in (List.mem_of_getElem? (i := 411) (by decide +kernel)) rfl, tyX8_ok, nmX8, rfl⟩
theorem fdX8_11 : pvFd RX8 11 8 1 := ⟨RX8, TX8, 8, rfl, inX8, by decide, pv_in (List.mem_of_getElem? (i := 412) (by decide +kernel)) rfl, tyX8_ok, nmX8, rfl⟩
theorem fdX8_15 : pvFd RX8 15 8 2 := ⟨RX8, TX8, 8, rfl, inX8, by decide, pv_in (List.mem_of_getElem? (i := 413) (by decide +kernel)) rfl, tyX8_ok, nmX8, rfl⟩
theorem fdX8_18 : pvFd RX8 18 8 3 := ⟨RX8, TX8, 8, rfl, inX8, by decide, pv_in (List.mem_of_getElem? (i := 414) (by decide +kernel)) rfl, tyX8_ok, nmX8, rfl⟩
theorem fdX11_398 : pvFd RX11 398 8 3 := ⟨RX8, TX8, 8, rfl, inX8, by decide, pv_in (List.mem_of_getElem? (i := 415) (by decide +kernel)) rfl, tyX8_ok, nmX8, rfl⟩
theorem fdX8_22 : pvFd RX8 22 8 4 := ⟨RX8, TX8, 8, rfl, inX8, by decide, pv_in (List.mem_of_getElem? (i := 416) (by decide +kernel)) rfl, tyX8_ok, nmX8, rfl⟩
theorem fdX11_401 : pvFd RX11 401 8 4 := ⟨RX8, TX8, 8, rfl, inX8, by decide, pv_in (List.mem_of_getElem? (i := 417) (by decide +kernel)) rfl, tyX8_ok, nmX8, rfl⟩
theorem fdX11_407 : pvFd RX11 407 8 5 := ⟨RX8, TX8, 8, rfl, inX8, by decide, pv_in (List.mem_of_getElem? (i := 418) (by decide +kernel)) rfl, tyX8_ok, nmX8, rfl⟩
theorem fdX11_410 : pvFd RX11 410 8 6 := ⟨RX8, TX8, 8, rfl, inX8, by decide, pv_in (List.mem_of_getElem? (i := 419) (by decide +kernel)) rfl, tyX8_ok, nmX8, rfl⟩
theorem fdX11_413 : pvFd RX11 413 8 7 := ⟨RX8, TX8, 8, rfl, inX8, by decide, pv_in (List.mem_of_getElem? (i := 420) (by decide +kernel)) rfl, tyX8_ok, nmX8, rfl⟩
theorem fdX10_57 : pvFd RX10 57 10 0 := ⟨RX10, TX10, 8, rfl, inX10, by decide, pv_in (List.mem_of_getElem? (i := 438) (by decide +kernel)) rfl, tyX10_ok, nmX10, rfl⟩
theorem fdX11_77 : pvFd RX11 77 10 0 := ⟨RX10, TX10, 8, rfl, inX10, by decide, pv_in (List.mem_of_getElem? (i := 439) (by decide +kernel)) rfl, tyX10_ok, nmX10, rfl⟩
theorem fdX10_7 : pvFd RX10 7 10 1 := ⟨RX10, TX10, 8, rfl, inX10, by decide, pv_in (List.mem_of_getElem? (i := 440) (by decide +kernel)) rfl, tyX10_ok, nmX10, rfl⟩
theorem fdX1_124 : pvFd RX1 124 10 1 := ⟨RX10, TX10, 8, rfl, inX10, by decide, pv_in (List.mem_of_getElem? (i := 441) (by decide +kernel)) rfl, tyX10_ok, nmX10, rfl⟩
theorem fdX10_18 : pvFd RX10 18 10 2 := ⟨RX10, TX10, 8, rfl, inX10, by decide, pv_in (List.mem_of_getElem? (i := 442) (by decide +kernel)) rfl, tyX10_ok, nmX10, rfl⟩
theorem fdX11_89 : pvFd RX11 89 10 2 := ⟨RX10, TX10, 8, rfl, inX10, by decide, pv_in (List.mem_of_getElem? (i := 443) (by decide +kernel)) rfl, tyX10_ok, nmX10, rfl⟩
theorem fdX1_87 : pvFd RX1 87 10 2 := ⟨RX10, TX10, 8, rfl, inX10, by decide, pv_in (List.mem_of_getElem? (i := 444) (by decide +kernel)) rfl, tyX10_ok, nmX10, rfl⟩
theorem fdX10_25 : pvFd RX10 25 10 3 := ⟨RX10, TX10, 8, rfl, inX10, by decide, pv_in (List.mem_of_getElem? (i := 445) (by decide +kernel)) rfl, tyX10_ok, nmX10, rfl⟩
theorem fdX11_112 : pvFd RX11 112 10 3 := ⟨RX10, TX10, 8, rfl, inX10, by decide, pv_in (List.mem_of_getElem? (i := 446) (by decide +kernel)) rfl, tyX10_ok, nmX10, rfl⟩
theorem fdX1_106 : pvFd RX1 106 10 3 := ⟨RX10, TX10, 8, rfl, inX10, by decide, pv_in (List.mem_of_getElem? (i := 447) (by decide +kernel)) rfl, tyX10_ok, nmX10, rfl⟩
theorem fdX10_32 : pvFd RX10 32 10 4 := ⟨RX10, TX10, 8, rfl, inX10, by decide, pv_in (List.mem_of_getElem? (i := 448) (by decide +kernel)) rfl, tyX10_ok, nmX10, rfl⟩
theorem fdX11_163 : pvFd RX11 163 10 4 := ⟨RX10, TX10, 8, rfl, inX10, by decide, pv_in (List.mem_of_getElem? (i := 449) (by decide +kernel)) rfl, tyX10_ok, nmX10, rfl⟩
theorem fdX10_39 : pvFd RX10 39 10 5 := ⟨RX10, TX10, 8, rfl, inX10, by decide, pv_in (List.mem_of_getElem? (i := 450) (by decide +kernel)) rfl, tyX10_ok, nmX10, rfl⟩
theorem fdX11_277 : pvFd RX11 277 10 5 := ⟨RX10, TX10, 8, rfl, inX10, by decide, pv_in (List.mem_of_getElem? (i := 451) (by decide +kernel)) rfl, tyX10_ok, nmX10, rfl⟩
theorem fdX10_46 : pvFd RX10 46 10 6 := ⟨RX10, TX10, 8, rfl, inX10, by decide, pv_in (List.mem_of_getElem? (i := 452) (by decide +kernel)) rfl, tyX10_ok, nmX10, rfl⟩
theorem fdX11_333 : pvFd RX11 333 10 6 := ⟨RX10, TX10, 8, rfl, inX10, by decide, pv_in (List.mem_of_getElem? (i := 453) (by decide +kernel)) rfl, tyX10_ok, nmX10, rfl⟩
theorem fdX10_53 : pvFd RX10 53 10 7 := ⟨RX10, TX10, 8, rfl, inX10, by decide, pv_in (List.mem_of_getElem? (i := 454) (by decide +kernel)) rfl, tyX10_ok, nmX10, rfl⟩
theorem fdX11_180 : pvFd RX11 180 10 7 := ⟨RX10, TX10, 8, rfl, inX10, by decide, pv_in (List.mem_of_getElem? (i := 455) (by decide +kernel)) rfl, tyX10_ok, nmX10, rfl⟩
theorem fdX1_35 : pvFd RX1 35 1 0 := ⟨RX1, TX1, 15, rfl, inX1, by decide, pv_in (List.mem_of_getElem? (i := 480) (by decide +kernel)) rfl, tyX1_ok, nmX1, rfl⟩
theorem fdX1_38 : pvFd RX1 38 1 1 := ⟨RX1, TX1, 15, rfl, inX1, by decide, pv_in (List.mem_of_getElem? (i := 481) (by decide +kernel)) rfl, tyX1_ok, nmX1, rfl⟩
theorem fdX1_9 : pvFd RX1 9 1 2 := ⟨RX1, TX1, 15, rfl, inX1, by decide, pv_in (List.mem_of_getElem? (i := 482) (by decide +kernel)) rfl, tyX1_ok, nmX1, rfl⟩
theorem fdX11_229 : pvFd RX11 229 1 2 := ⟨RX1, TX1, 15, rfl, inX1, by decide, pv_in (List.mem_of_getElem? (i := 483) (by decide +kernel)) rfl, tyX1_ok, nmX1, rfl⟩
theorem fdX1_131 : pvFd RX1 131 1 3 := ⟨RX1, TX1, 15, rfl, inX1, by decide, pv_in (List.mem_of_getElem? (i := 484) (by decide +kernel)) rfl, tyX1_ok, nmX1, rfl⟩
theorem fdX11_527 : pvFd RX11 527 1 3 := ⟨RX1, TX1, 15, rfl, inX1, by decide, pv_in (List.mem_of_getElem? (i := 485) (by decide +kernel)) rfl, tyX1_ok, nmX1, rfl⟩
theorem fdX1_15 : pvFd RX1 15 1 4 := ⟨RX1, TX1, 15, rfl, inX1, by decide, pv_in (List.mem_of_getElem? (i := 486) (by decide +kernel)) rfl, tyX1_ok, nmX1, rfl⟩
theorem fdX1_45 : pvFd RX1 45 1 5 := ⟨RX1, TX1, 15, rfl, inX1, by decide, pv_in (List.mem_of_getElem? (i := 487) (by decide +kernel)) rfl, tyX1_ok, nmX1, rfl⟩
theorem fdX1_54 : pvFd RX1 54 1 6 := ⟨RX1, TX1, 15, rfl, inX1, by decide, pv_in (List.mem_of_getElem? (i := 488) (by decide +kernel)) rfl, tyX1_ok, nmX1, rfl⟩
theorem fdX1_58 : pvFd RX1 58 1 7 := ⟨RX1, TX1, 15, rfl, inX1, by decide, pv_in (List.mem_of_getElem? (i := 489) (by decide +kernel)) rfl, tyX1_ok, nmX1, rfl⟩
theorem fdX1_61 : pvFd RX1 61 1 8 := ⟨RX1, TX1, 15, rfl, inX1, by decide, pv_in (List.mem_of_getElem? (i := 490) (by decide +kernel)) rfl, tyX1_ok, nmX1, rfl⟩
theorem fdX1_64 : pvFd RX1 64 1 9 := ⟨RX1, TX1, 15, rfl, inX1, by decide, pv_in (List.mem_of_getElem? (i := 491) (by decide +kernel)) rfl, tyX1_ok, nmX1, rfl⟩
theorem fdX1_18 : pvFd RX1 18 1 10 := ⟨RX1, TX1, 15, rfl, inX1, by decide, pv_in (List.mem_of_getElem? (i := 492) (by decide +kernel)) rfl, tyX1_ok, nmX1, rfl⟩
theorem fdX11_196 : pvFd RX11 196 1 10 := ⟨RX1, TX1, 15, rfl, inX1, by decide, pv_in (List.mem_of_getElem? (i := 493) (by decide +kernel)) rfl, tyX1_ok, nmX1, rfl⟩
theorem fdX1_22 : pvFd RX1 22 1 11 := ⟨RX1, TX1, 15, rfl, inX1, by decide, pv_in (List.mem_of_getElem? (i := 494) (by decide +kernel)) rfl, tyX1_ok, nmX1, rfl⟩
theorem fdX11_199 : pvFd RX11 199 1 11 := ⟨RX1, TX1, 15, rfl, inX1, by decide, pv_in (List.mem_of_getElem? (i := 495) (by decide +kernel)) rfl, tyX1_ok, nmX1, rfl⟩
theorem fdX1_25 : pvFd RX1 25 1 12 := ⟨RX1, TX1, 15, rfl, inX1, by decide, pv_in (List.mem_of_getElem? (i := 496) (by decide +kernel)) rfl, tyX1_ok, nmX1, rfl⟩
theorem fdX11_212 : pvFd RX11 212 1 12 := ⟨RX1, TX1, 15, rfl, inX1, by decide, pv_in (List.mem_of_getElem? (i := 497) (by decide +kernel)) rfl, tyX1_ok, nmX1, rfl⟩
theorem fdX1_29 : pvFd RX1 29 1 13 := ⟨RX1, TX1, 15, rfl, inX1, by decide, pv_in (List.mem_of_getElem? (i := 498) (by decide +kernel)) rfl, tyX1_ok, nmX1, rfl⟩
theorem fdX11_216 : pvFd RX11 216 1 13 := ⟨RX1, TX1, 15, rfl, inX1, by decide, pv_in (List.mem_of_getElem? (i := 499) (by decide +kernel)) rfl, tyX1_ok, nmX1, rfl⟩
theorem fdX1_32 : pvFd RX1 32 1 14 := ⟨RX1, TX1, 15, rfl, inX1, by decide, pv_in (List.mem_of_getElem? (i := 500) (by decide +kernel)) rfl, tyX1_ok, nmX1, rfl⟩
theorem fdX11_440 : pvFd RX11 440 1 14 := ⟨RX1, TX1, 15, rfl, inX1, by decide, pv_in (List.mem_of_getElem? (i := 501) (by decide +kernel)) rfl, tyX1_ok, nmX1, rfl⟩
theorem fdX6_9 : pvFd RX6 9 6 0 := ⟨RX6, TX6, 12, rfl, inX6, by decide, pv_in (List.mem_of_getElem? (i := 539) (by decide +kernel)) rfl, tyX6_ok, nmX6, rfl⟩
theorem fdX6_28 : pvFd RX6 28 6 1 := ⟨RX6, TX6, 12, rfl, inX6, by decide, pv_in (List.mem_of_getElem? (i := 540) (by decide +kernel)) rfl, tyX6_ok, nmX6, rfl⟩
theorem fdX11_330 : pvFd RX11 330 6 1 := ⟨RX6, TX6, 12, rfl, inX6, by decide, pv_in (List.mem_of_getElem? (i := 541) (by decide +kernel)) rfl, tyX6_ok, nmX6, rfl⟩
theorem fdX6_15 : pvFd RX6 15 6 2 := ⟨RX6, TX6, 12, rfl, inX6, by decide, pv_in (List.mem_of_getElem? (i := 542) (by decide +kernel)) rfl, tyX6_ok, nmX6, rfl⟩
theorem fdX11_346 : pvFd RX11 346 6 2 := ⟨RX6, TX6, 12, rfl, inX6, by decide, pv_in (List.mem_of_getElem? (i := 543) (by decide +kernel)) rfl, tyX6_ok, nmX6, rfl⟩
theorem fdX6_19 : pvFd RX6 19 6 3 := ⟨RX6, TX6, 12, rfl, inX6, by decide, pv_in (List.mem_of_getElem? (i := 544) (by decide +kernel)) rfl, tyX6_ok, nmX6, rfl⟩
theorem fdX11_349 : pvFd RX11 349 6 3 := ⟨RX6, TX6, 12, rfl, inX6, by decide, pv_in (List.mem_of_getElem? (i := 545) (by decide +kernel)) rfl, tyX6_ok, nmX6, rfl⟩
theorem fdX6_22 : pvFd RX6 22 6 4 := ⟨RX6, TX6, 12, rfl, inX6, by decide, pv_in (List.mem_of_getElem? (i := 546) (by decide +kernel)) rfl, tyX6_ok, nmX6, rfl⟩
theorem fdX6_25 : pvFd RX6 25 6 5 := ⟨RX6, TX6, 12, rfl, inX6, by decide, pv_in (List.mem_of_getElem? (i := 547) (by decide +kernel)) rfl, tyX6_ok, nmX6, rfl⟩
theorem fdX6_55 : pvFd RX6 55 6 6 := ⟨RX6, TX6, 12, rfl, inX6, by decide, pv_in (List.mem_of_getElem? (i := 548) (by decide +kernel)) rfl, tyX6_ok, nmX6, rfl⟩
theorem fdX6_46 : pvFd RX6 46 6 7 := ⟨RX6, TX6, 12, rfl, inX6, by decide, pv_in (List.mem_of_getElem? (i := 549) (by decide +kernel)) rfl, tyX6_ok, nmX6, rfl⟩
theorem fdX6_49 : pvFd RX6 49 6 8 := ⟨RX6, TX6, 12, rfl, inX6, by decide, pv_in (List.mem_of_getElem? (i := 550) (by decide +kernel)) rfl, tyX6_ok, nmX6, rfl⟩
theorem fdX6_95 : pvFd RX6 95 6 9 := ⟨RX6, TX6, 12, rfl, inX6, by decide, pv_in (List.mem_of_getElem? (i := 551) (by decide +kernel)) rfl, tyX6_ok, nmX6, rfl⟩
theorem fdX6_34 : pvFd RX6 34 6 10 := ⟨RX6, TX6, 12, rfl, inX6, by decide, pv_in (List.mem_of_getElem? (i := 552) (by decide +kernel)) rfl, tyX6_ok, nmX6, rfl⟩
theorem fdX6_37 : pvFd RX6 37 6 11 := ⟨RX6, TX6, 12, rfl, inX6, by decide, pv_in (List.mem_of_getElem? (i := 553) (by decide +kernel)) rfl, tyX6_ok, nmX6, rfl⟩
theorem fdX0_24 : pvFd RX0 24 0 0 := ⟨RX0, TX0, 6, rfl, inX0, by decide, pv_in (List.mem_of_getElem? (i := 586) (by decide +kernel)) rfl, tyX0_ok, nmX0, rfl⟩
theorem fdX6_106 : pvFd RX6 106 0 0 := ⟨RX0, TX0, 6, rfl, inX0, by decide, pv_in (List.mem_of_getElem? (i := 587) (by decide +kernel)) rfl, tyX0_ok, nmX0, rfl⟩
theorem fdX11_372 : pvFd RX11 372 0 0 := ⟨RX0, TX0, 6, rfl, inX0, by decide, pv_in (List.mem_of_getElem? (i := 588) (by decide +kernel)) rfl, tyX0_ok, nmX0, rfl⟩
theorem fdX0_28 : pvFd RX0 28 0 1 := ⟨RX0, TX0, 6, rfl, inX0, by decide, pv_in (List.mem_of_getElem? (i := 589) (by decide +kernel)) rfl, tyX0_ok, nmX0, rfl⟩
theorem fdX0_11 : pvFd RX0 11 0 2 := ⟨RX0, TX0, 6, rfl, inX0, by decide, pv_in (List.mem_of_getElem? (i := 590) (by decide +kernel)) rfl, tyX0_ok, nmX0, rfl⟩
theorem fdX11_375 : pvFd RX11 375 0 2 := ⟨RX0, TX0, 6, rfl, inX0, by decide, pv_in (List.mem_of_getElem? (i := 591) (by decide +kernel)) rfl, tyX0_ok, nmX0, rfl⟩
theorem fdX0_15 : pvFd RX0 15 0 3 := ⟨RX0, TX0, 6, rfl, inX0, by decide, pv_in (List.mem_of_getElem? (i := 592) (by decide +kernel)) rfl, tyX0_ok, nmX0, rfl⟩
theorem fdX11_382 : pvFd RX11 382 0 3 := ⟨RX0, TX0, 6, rfl, inX0, by decide, pv_in (List.mem_of_getElem? (i := 593) (by decide +kernel)) rfl, tyX0_ok, nmX0, rfl⟩
theorem fdX0_18 : pvFd RX0 18 0 4 := ⟨RX0, TX0, 6, rfl, inX0, by decide, pv_in (List.mem_of_getElem? (i := 594) (by decide +kernel)) rfl, tyX0_ok, nmX0, rfl⟩
theorem fdX0_21 : pvFd RX0 21 0 5 := ⟨RX0, TX0, 6, rfl, inX0, by decide, pv_in (List.mem_of_getElem? (i := 595) (by decide +kernel)) rfl, tyX0_ok, nmX0, rfl⟩
theorem fdX11_21 : pvFd RX11 21 11 0 := ⟨RX11, TX11, 10, rfl, inX11, by decide, pv_in (List.mem_of_getElem? (i := 609) (by decide +kernel)) rfl, tyX11_ok, nmX11, rfl⟩
theorem fdX11_32 : pvFd RX11 32 11 1 := ⟨RX11, TX11, 10, rfl, inX11, by decide, pv_in (List.mem_of_getElem? (i := 610) (by decide +kernel)) rfl, tyX11_ok, nmX11, rfl⟩
theorem fdX11_36 : pvFd RX11 36 11 2 := ⟨RX11, TX11, 10, rfl, inX11, by decide, pv_in (List.mem_of_getElem? (i := 611) (by decide +kernel)) rfl, tyX11_ok, nmX11, rfl⟩
theorem fdX11_41 : pvFd RX11 41 11 3 := ⟨RX11, TX11, 10, rfl, inX11, by decide, pv_in (List.mem_of_getElem? (i := 612) (by decide +kernel)) rfl, tyX11_ok, nmX11, rfl⟩
theorem fdX11_46 : pvFd RX11 46 11 4 := ⟨RX11, TX11, 10, rfl, inX11, by decide, pv_in (List.mem_of_getElem? (i := 613) (by decide +kernel)) rfl, tyX11_ok, nmX11, rfl⟩
theorem fdX11_53 : pvFd RX11 53 11 5 := ⟨RX11, TX11, 10, rfl, inX11, by decide, pv_in (List.mem_of_getElem? (i := 614) (by decide +kernel)) rfl, tyX11_ok, nmX11, rfl⟩
theorem fdX11_59 : pvFd RX11 59 11 6 := ⟨RX11, TX11, 10, rfl, inX11, by decide, pv_in (List.mem_of_getElem? (i := 615) (by decide +kernel)) rfl, tyX11_ok, nmX11, rfl⟩
theorem fdX11_64 : pvFd RX11 64 11 7 := ⟨RX11, TX11, 10, rfl, inX11, by decide, pv_in (List.mem_of_getElem? (i := 616) (by decide +kernel)) rfl, tyX11_ok, nmX11, rfl⟩
theorem fdX11_68 : pvFd RX11 68 11 8 := ⟨RX11, TX11, 10, rfl, inX11, by decide, pv_in (List.mem_of_getElem? (i := 617) (by decide +kernel)) rfl, tyX11_ok, nmX11, rfl⟩
theorem fdX11_73 : pvFd RX11 73 11 9 := ⟨RX11, TX11, 10, rfl, inX11, by decide, pv_in (List.mem_of_getElem? (i := 618) (by decide +kernel)) rfl, tyX11_ok, nmX11, rfl⟩
theorem fdX12_86 : pvFd RX12 86 12 0 := ⟨RX12, TX12, 42, rfl, inX12, by decide, pv_in (List.mem_of_getElem? (i := 1340) (by decide +kernel)) rfl, tyX12_ok, nmX12, rfl⟩
theorem fdX12_89 : pvFd RX12 89 12 1 := ⟨RX12, TX12, 42, rfl, inX12, by decide, pv_in (List.mem_of_getElem? (i := 1341) (by decide +kernel)) rfl, tyX12_ok, nmX12, rfl⟩
theorem fdX12_7 : pvFd RX12 7 12 2 := ⟨RX12, TX12, 42, rfl, inX12, by decide, pv_in (List.mem_of_getElem? (i := 1342) (by decide +kernel)) rfl, tyX12_ok, nmX12, rfl⟩
theorem fdX12_13 : pvFd RX12 13 12 3 := ⟨RX12, TX12, 42, rfl, inX12, by decide, pv_in (List.mem_of_getElem? (i := 1343) (by decide +kernel)) rfl, tyX12_ok, nmX12, rfl⟩
theorem fdX12_16 : pvFd RX12 16 12 4 := ⟨RX12, TX12, 42, rfl, inX12, by decide, pv_in (List.mem_of_getElem? (i := 1344) (by decide +kernel)) rfl, tyX12_ok, nmX12, rfl⟩
theorem fdX12_19 : pvFd RX12 19 12 5 := ⟨RX12, TX12, 42, rfl, inX12, by decide, pv_in (List.mem_of_getElem? (i := 1345) (by decide +kernel)) rfl, tyX12_ok, nmX12, rfl⟩
theorem fdX12_22 : pvFd RX12 22 12 6 := ⟨RX12, TX12, 42, rfl, inX12, by decide, pv_in (List.mem_of_getElem? (i := 1346) (by decide +kernel)) rfl, tyX12_ok, nmX12, rfl⟩
theorem fdX12_25 : pvFd RX12 25 12 7 := ⟨RX12, TX12, 42, rfl, inX12, by decide, pv_in (List.mem_of_getElem? (i := 1347) (by decide +kernel)) rfl, tyX12_ok, nmX12, rfl⟩
theorem fdX12_28 : pvFd RX12 28 12 8 := ⟨RX12, TX12, 42, rfl, inX12, by decide, pv_in (List.mem_of_getElem? (i := 1348) (by decide +kernel)) rfl, tyX12_ok, nmX12, rfl⟩
theorem fdX12_31 : pvFd RX12 31 12 9 := ⟨RX12, TX12, 42, rfl, inX12, by decide, pv_in (List.mem_of_getElem? (i := 1349) (by decide +kernel)) rfl, tyX12_ok, nmX12, rfl⟩
theorem fdX12_34 : pvFd RX12 34 12 10 := ⟨RX12, TX12, 42, rfl, inX12, by decide, pv_in (List.mem_of_getElem? (i := 1350) (by decide +kernel)) rfl, tyX12_ok, nmX12, rfl⟩
theorem fdX12_37 : pvFd RX12 37 12 11 := ⟨RX12, TX12, 42, rfl, inX12, by decide, pv_in (List.mem_of_getElem? (i := 1351) (by decide +kernel)) rfl, tyX12_ok, nmX12, rfl⟩
theorem fdX12_40 : pvFd RX12 40 12 12 := ⟨RX12, TX12, 42, rfl, inX12, by decide, pv_in (List.mem_of_getElem? (i := 1352) (by decide +kernel)) rfl, tyX12_ok, nmX12, rfl⟩
theorem fdX12_43 : pvFd RX12 43 12 13 := ⟨RX12, TX12, 42, rfl, inX12, by decide, pv_in (List.mem_of_getElem? (i := 1353) (by decide +kernel)) rfl, tyX12_ok, nmX12, rfl⟩
theorem fdX12_48 : pvFd RX12 48 12 14 := ⟨RX12, TX12, 42, rfl, inX12, by decide, pv_in (List.mem_of_getElem? (i := 1354) (by decide +kernel)) rfl, tyX12_ok, nmX12, rfl⟩
theorem fdX12_51 : pvFd RX12 51 12 15 := ⟨RX12, TX12, 42, rfl, inX12, by decide, pv_in (List.mem_of_getElem? (i := 1355) (by decide +kernel)) rfl, tyX12_ok, nmX12, rfl⟩
theorem fdX12_54 : pvFd RX12 54 12 16 := ⟨RX12, TX12, 42, rfl, inX12, by decide, pv_in (List.mem_of_getElem? (i := 1356) (by decide +kernel)) rfl, tyX12_ok, nmX12, rfl⟩
theorem fdX12_178 : pvFd RX12 178 12 17 := ⟨RX12, TX12, 42, rfl, inX12, by decide, pv_in (List.mem_of_getElem? (i := 1357) (by decide +kernel)) rfl, tyX12_ok, nmX12, rfl⟩
theorem fdX12_246 : pvFd RX12 246 12 18 := ⟨RX12, TX12, 42, rfl, inX12, by decide, pv_in (List.mem_of_getElem? (i := 1358) (by decide +kernel)) rfl, tyX12_ok, nmX12, rfl⟩
theorem fdX12_57 : pvFd RX12 57 12 19 := ⟨RX12, TX12, 42, rfl, inX12, by decide, pv_in (List.mem_of_getElem? (i := 1359) (by decide +kernel)) rfl, tyX12_ok, nmX12, rfl⟩
theorem fdX12_61 : pvFd RX12 61 12 20 := ⟨RX12, TX12, 42, rfl, inX12, by decide, pv_in (List.mem_of_getElem? (i := 1360) (by decide +kernel)) rfl, tyX12_ok, nmX12, rfl⟩
theorem fdX12_185 : pvFd RX12 185 12 21 := ⟨RX12, TX12, 42, rfl, inX12, by decide, pv_in (List.mem_of_getElem? (i := 1361) (by decide +kernel)) rfl, tyX12_ok, nmX12, rfl⟩
theorem fdX12_191 : pvFd RX12 191 12 22 := ⟨RX12, TX12, 42, rfl, inX12, by decide, pv_in (List.mem_of_getElem? (i := 1362) (by decide +kernel)) rfl, tyX12_ok, nmX12, rfl⟩
theorem fdX12_194 : pvFd RX12 194 12 23 := ⟨RX12, TX12, 42, rfl, inX12, by decide, pv_in (List.mem_of_getElem? (i := 1363) (by decide +kernel)) rfl, tyX12_ok, nmX12, rfl⟩
theorem fdX12_200 : pvFd RX12 200 12 24 := ⟨RX12, TX12, 42, rfl, inX12, by decide, pv_in (List.mem_of_getElem? (i := 1364) (by decide +kernel)) rfl, tyX12_ok, nmX12, rfl⟩
theorem fdX12_207 : pvFd RX12 207 12 25 := ⟨RX12, TX12, 42, rfl, inX12, by decide, pv_in (List.mem_of_getElem? (i := 1365) (by decide +kernel)) rfl, tyX12_ok, nmX12, rfl⟩
theorem fdX12_219 : pvFd RX12 219 12 26 := ⟨RX12, TX12, 42, rfl, inX12, by decide, pv_in (List.mem_of_getElem? (i := 1366) (by decide +kernel)) rfl, tyX12_ok, nmX12, rfl⟩
theorem fdX12_302 : pvFd RX12 302 12 27 := ⟨RX12, TX12, 42, rfl, inX12, by decide, pv_in (List.mem_of_getElem? (i := 1367) (by decide +kernel)) rfl, tyX12_ok, nmX12, rfl⟩
theorem fdX12_222 : pvFd RX12 222 12 28 := ⟨RX12, TX12, 42, rfl, inX12, by decide, pv_in (List.mem_of_getElem? (i := 1368) (by decide +kernel)) rfl, tyX12_ok, nmX12, rfl⟩
theorem fdX12_299 : pvFd RX12 299 12 29 := ⟨RX12, TX12, 42, rfl, inX12, by decide, pv_in (List.mem_of_getElem? (i := 1369) (by decide +kernel)) rfl, tyX12_ok, nmX12, rfl⟩
theorem fdX12_64 : pvFd RX12 64 12 30 := ⟨RX12, TX12, 42, rfl, inX12, by decide, pv_in (List.mem_of_getElem? (i := 1370) (by decide +kernel)) rfl, tyX12_ok, nmX12, rfl⟩
theorem fdX12_225 : pvFd RX12 225 12 31 := ⟨RX12, TX12, 42, rfl, inX12, by decide, pv_in (List.mem_of_getElem? (i := 1371) (by decide +kernel)) rfl, tyX12_ok, nmX12, rfl⟩
theorem fdX12_232 : pvFd RX12 232 12 32 := ⟨RX12, TX12, 42, rfl, inX12, by decide, pv_in (List.mem_of_getElem? (i := 1372) (by decide +kernel)) rfl, tyX12_ok, nmX12, rfl⟩
theorem fdX12_228 : pvFd RX12 228 12 33 := ⟨RX12, TX12, 42, rfl, inX12, by decide, pv_in (List.mem_of_getElem? (i := 1373) (by decide +kernel)) rfl, tyX12_ok, nmX12, rfl⟩
theorem fdX12_67 : pvFd RX12 67 12 34 := ⟨RX12, TX12, 42, rfl, inX12, by decide, pv_in (List.mem_of_getElem? (i := 1374) (by decide +kernel)) rfl, tyX12_ok, nmX12, rfl⟩
theorem fdX12_70 : pvFd RX12 70 12 35 := ⟨RX12, TX12, 42, rfl, inX12, by decide, pv_in (List.mem_of_getElem? (i := 1375) (by decide +kernel)) rfl, tyX12_ok, nmX12, rfl⟩
theorem fdX12_74 : pvFd RX12 74 12 36 := ⟨RX12, TX12, 42, rfl, inX12, by decide, pv_in (List.mem_of_getElem? (i := 1376) (by decide +kernel)) rfl, tyX12_ok, nmX12, rfl⟩
theorem fdX12_77 : pvFd RX12 77 12 37 := ⟨RX12, TX12, 42, rfl, inX12, by decide, pv_in (List.mem_of_getElem? (i := 1377) (by decide +kernel)) rfl, tyX12_ok, nmX12, rfl⟩
theorem fdX12_80 : pvFd RX12 80 12 38 := ⟨RX12, TX12, 42, rfl, inX12, by decide, pv_in (List.mem_of_getElem? (i := 1378) (by decide +kernel)) rfl, tyX12_ok, nmX12, rfl⟩
theorem fdX12_357 : pvFd RX12 357 12 39 := ⟨RX12, TX12, 42, rfl, inX12, by decide, pv_in (List.mem_of_getElem? (i := 1379) (by decide +kernel)) rfl, tyX12_ok, nmX12, rfl⟩
theorem fdX12_360 : pvFd RX12 360 12 40 := ⟨RX12, TX12, 42, rfl, inX12, by decide, pv_in (List.mem_of_getElem? (i := 1380) (by decide +kernel)) rfl, tyX12_ok, nmX12, rfl⟩
theorem fdX12_83 : pvFd RX12 83 12 41 := ⟨RX12, TX12, 42, rfl, inX12, by decide, pv_in (List.mem_of_getElem? (i := 1381) (by decide +kernel)) rfl, tyX12_ok, nmX12, rfl⟩
theorem kcJ6_265 : Cond.constant RJ6 265 (1431655765 : Int32) ∈ pv_T := pv_in (List.mem_of_getElem? (i := 892) (by decide +kernel)) rfl
theorem kcJ6_266 : Cond.constant RJ6 266 (858993459 : Int32) ∈ pv_T := pv_in (List.mem_of_getElem? (i := 893) (by decide +kernel)) rfl
theorem kcJ6_267 : Cond.constant RJ6 267 (252645135 : Int32) ∈ pv_T := pv_in (List.mem_of_getElem? (i := 894) (by decide +kernel)) rfl
theorem kcX6_143 : Cond.constant RX6 143 (40000 : Int32) ∈ pv_T := pv_in (List.mem_of_getElem? (i := 1141) (by decide +kernel)) rfl
theorem kcX0_31 : Cond.constant RX0 31 (40000 : Int32) ∈ pv_T := pv_in (List.mem_of_getElem? (i := 1198) (by decide +kernel)) rfl
theorem kcX11_397 : Cond.constant RX11 397 (99999 : Int32) ∈ pv_T := pv_in (List.mem_of_getElem? (i := 1258) (by decide +kernel)) rfl
theorem kcX12_47 : Cond.constant RX12 47 (51200 : Int32) ∈ pv_T := pv_in (List.mem_of_getElem? (i := 1336) (by decide +kernel)) rfl
theorem kcX12_203 : Cond.constant RX12 203 (100000 : Int32) ∈ pv_T := pv_in (List.mem_of_getElem? (i := 1687) (by decide +kernel)) rfl
theorem kcX12_369 : Cond.constant RX12 369 (99999 : Int32) ∈ pv_T := pv_in (List.mem_of_getElem? (i := 1855) (by decide +kernel)) rfl
theorem kcX2_23 : Cond.constantLong RX2 23 (-1 : Int64) ∈ pv_T := pv_in (List.mem_of_getElem? (i := 142) (by decide +kernel)) rfl
theorem kcX3_59 : Cond.constantLong RX3 59 (-1 : Int64) ∈ pv_T := pv_in (List.mem_of_getElem? (i := 659) (by decide +kernel)) rfl
theorem kcJ13_314 : Cond.constantLong RJ13 314 (6148914691236517205 : Int64) ∈ pv_T := pv_in (List.mem_of_getElem? (i := 728) (by decide +kernel)) rfl
theorem kcJ13_316 : Cond.constantLong RJ13 316 (3689348814741910323 : Int64) ∈ pv_T := pv_in (List.mem_of_getElem? (i := 729) (by decide +kernel)) rfl
theorem kcJ13_318 : Cond.constantLong RJ13 318 (1085102592571150095 : Int64) ∈ pv_T := pv_in (List.mem_of_getElem? (i := 730) (by decide +kernel)) rfl
theorem kcX1_119 : Cond.constantLong RX1 119 (-1 : Int64) ∈ pv_T := pv_in (List.mem_of_getElem? (i := 811) (by decide +kernel)) rfl
theorem kcX0_46 : Cond.constantLong RX0 46 (-1000000000 : Int64) ∈ pv_T := pv_in (List.mem_of_getElem? (i := 1205) (by decide +kernel)) rfl
theorem kcX0_48 : Cond.constantLong RX0 48 (1000000000 : Int64) ∈ pv_T := pv_in (List.mem_of_getElem? (i := 1206) (by decide +kernel)) rfl
theorem kcX12_294 : Cond.constantLong RX12 294 (28530 : Int64) ∈ pv_T := pv_in (List.mem_of_getElem? (i := 1771) (by decide +kernel)) rfl
theorem kcX12_320 : Cond.constantLong RX12 320 (1000000000 : Int64) ∈ pv_T := pv_in (List.mem_of_getElem? (i := 1822) (by decide +kernel)) rfl
theorem kcX12_322 : Cond.constantLong RX12 322 (-1000000000 : Int64) ∈ pv_T := pv_in (List.mem_of_getElem? (i := 1823) (by decide +kernel)) rfl
