/-! methods, links of fields and calls: by program -/
abbrev mX11_init : x_Mt := (yX11_init, cX11_init, 2, none)
abbrev mX9_init : x_Mt := (yX9_init, cX9_init, 2, none)
abbrev mX2_init : x_Mt := (yX2_init, cX2_init, 1, none)
abbrev mX1_init : x_Mt := (yX1_init, cX1_init, 1, none)
abbrev mX4_init : x_Mt := (yX4_init, cX4_init, 1, none)
abbrev mX6_init : x_Mt := (yX6_init, cX6_init, 1, none)
abbrev mX7_init : x_Mt := (yX7_init, cX7_init, 1, none)
abbrev mX10_init : x_Mt := (yX10_init, cX10_init, 1, none)
abbrev mX3_init : x_Mt := (yX3_init, cX3_init, 1, none)
abbrev mX0_init : x_Mt := (yX0_init, cX0_init, 1, none)
abbrev mX11_feed : x_Mt := (yX11_feed, cX11_feed, 6, (some .int))
abbrev mX9_put : x_Mt := (yX9_put, cX9_put, 3, none)
abbrev mX11_end : x_Mt := (yX11_end, cX11_end, 2, (some .int))
abbrev mX11_text : x_Mt := (yX11_text, cX11_text, 4, (some .int))
abbrev mX9_numberFor : x_Mt := (yX9_numberFor, cX9_numberFor, 3, (some .int))
abbrev mX9_has : x_Mt := (yX9_has, cX9_has, 3, (some .boolean))
abbrev mX8_at : x_Mt := (yX8_at, cX8_at, 2, (some .int))
abbrev mX6_takeTape : x_Mt := (yX6_takeTape, cX6_takeTape, 2, none)
abbrev mX6_read : x_Mt := (yX6_read, cX6_read, 2, none)
abbrev mX2_clear : x_Mt := (yX2_clear, cX2_clear, 1, none)
abbrev mJ7_fill_53178 : x_Mt := (yJ7_fill_53178, cJ7_fill_53178, 4, none)
abbrev mX4_clear : x_Mt := (yX4_clear, cX4_clear, 1, none)
abbrev mX6_readLines : x_Mt := (yX6_readLines, cX6_readLines, 4, (some .boolean))
abbrev mX6_step : x_Mt := (yX6_step, cX6_step, 2, none)
abbrev mX6_byteAt : x_Mt := (yX6_byteAt, cX6_byteAt, 2, (some .int))
abbrev mX6_isBlank : x_Mt := (yX6_isBlank, cX6_isBlank, 1, (some .boolean))
abbrev mX6_isLetter : x_Mt := (yX6_isLetter, cX6_isLetter, 1, (some .boolean))
abbrev mX6_isDigit : x_Mt := (yX6_isDigit, cX6_isDigit, 1, (some .boolean))
abbrev mX6_stepOverDigits : x_Mt := (yX6_stepOverDigits, cX6_stepOverDigits, 1, none)
abbrev mX6_lineNamed : x_Mt := (yX6_lineNamed, cX6_lineNamed, 3, (some .int))
abbrev mX6_nameOf : x_Mt := (yX6_nameOf, cX6_nameOf, 1, (some (.object "java/lang/String")))
abbrev mX6_isToken : x_Mt := (yX6_isToken, cX6_isToken, 3, (some .boolean))
abbrev mJ0_length_8abf5 : x_Mt := (yJ0_length_8abf5, cJ0_length_8abf5, 1, (some .int))
abbrev mJ0_coder_7d493 : x_Mt := (yJ0_coder_7d493, cJ0_coder_7d493, 1, (some .byte))
abbrev mJ0_charAt_5068e : x_Mt := (yJ0_charAt_5068e, cJ0_charAt_5068e, 2, (some .char))
abbrev mJ0_isLatin1_aae02 : x_Mt := (yJ0_isLatin1_aae02, cJ0_isLatin1_aae02, 1, (some .boolean))
abbrev mJ1_charAt_3b067 : x_Mt := (yJ1_charAt_3b067, cJ1_charAt_3b067, 2, (some .char))
abbrev mJ0_checkIndex_df160 : x_Mt := (yJ0_checkIndex_df160, cJ0_checkIndex_df160, 2, none)
abbrev mJ3_checkIndex_8e157 : x_Mt := (yJ3_checkIndex_8e157, cJ3_checkIndex_8e157, 3, (some .int))
abbrev mJ2_charAt_3b067 : x_Mt := (yJ2_charAt_3b067, cJ2_charAt_3b067, 2, (some .char))
abbrev mJ2_checkIndex_2214a : x_Mt := (yJ2_checkIndex_2214a, cJ2_checkIndex_2214a, 2, none)
abbrev mJ2_length_9d52b : x_Mt := (yJ2_length_9d52b, cJ2_length_9d52b, 1, (some .int))
abbrev mJ2_getChar_3b067 : x_Mt := (yJ2_getChar_3b067, cJ2_getChar_3b067, 2, (some .char))
abbrev mX6_readLine : x_Mt := (yX6_readLine, cX6_readLine, 4, (some .boolean))
abbrev mX6_isOneTooMany : x_Mt := (yX6_isOneTooMany, cX6_isOneTooMany, 2, (some .boolean))
abbrev mX6_blame : x_Mt := (yX6_blame, cX6_blame, 3, none)
abbrev mX8_set : x_Mt := (yX8_set, cX8_set, 3, none)
abbrev mX6_keep : x_Mt := (yX6_keep, cX6_keep, 3, none)
abbrev mX6_keepOfLog : x_Mt := (yX6_keepOfLog, cX6_keepOfLog, 2, none)
abbrev mX4_add : x_Mt := (yX4_add, cX4_add, 3, none)
abbrev mX1_add : x_Mt := (yX1_add, cX1_add, 5, none)
abbrev mX6_keepOfFair : x_Mt := (yX6_keepOfFair, cX6_keepOfFair, 2, none)
abbrev mX2_setWrongs : x_Mt := (yX2_setWrongs, cX2_setWrongs, 4, none)
abbrev mX2_setPlace : x_Mt := (yX2_setPlace, cX2_setPlace, 4, none)
abbrev mX6_keepRow : x_Mt := (yX6_keepRow, cX6_keepRow, 5, none)
abbrev mX9_take : x_Mt := (yX9_take, cX9_take, 4, none)
abbrev mX2_copyFrom : x_Mt := (yX2_copyFrom, cX2_copyFrom, 2, none)
abbrev mX1_copyFrom : x_Mt := (yX1_copyFrom, cX1_copyFrom, 2, none)
abbrev mX4_copyFrom : x_Mt := (yX4_copyFrom, cX4_copyFrom, 2, none)
abbrev mJ9_max_7cf53 : x_Mt := (yJ9_max_7cf53, cJ9_max_7cf53, 2, (some .int))
abbrev mX11_fault : x_Mt := (yX11_fault, cX11_fault, 2, (some .int))
abbrev mX11_fair : x_Mt := (yX11_fair, cX11_fair, 4, (some .int))
abbrev mX11_fairOf : x_Mt := (yX11_fairOf, cX11_fairOf, 2, (some (.object "UprightFair$Fair")))
abbrev mX2_tell : x_Mt := (yX2_tell, cX2_tell, 4, (some .int))
abbrev mX2_tellWhole : x_Mt := (yX2_tellWhole, cX2_tellWhole, 2, (some .int))
abbrev mX2_tellSingle : x_Mt := (yX2_tellSingle, cX2_tellSingle, 3, (some .int))
abbrev mX2_hasGoer : x_Mt := (yX2_hasGoer, cX2_hasGoer, 2, (some .boolean))
abbrev mX2_wrongsOf : x_Mt := (yX2_wrongsOf, cX2_wrongsOf, 3, (some .int))
abbrev mX11_deed : x_Mt := (yX11_deed, cX11_deed, 5, (some .int))
abbrev mX11_dayOf : x_Mt := (yX11_dayOf, cX11_dayOf, 2, (some (.object "UprightFair$Day")))
abbrev mX1_tell : x_Mt := (yX1_tell, cX1_tell, 3, (some .int))
abbrev mX1_part : x_Mt := (yX1_part, cX1_part, 3, (some .int))
abbrev mX11_till : x_Mt := (yX11_till, cX11_till, 5, (some .int))
abbrev mX7_run : x_Mt := (yX7_run, cX7_run, 5, (some .int))
abbrev mX7_begin : x_Mt := (yX7_begin, cX7_begin, 2, none)
abbrev mX7_act : x_Mt := (yX7_act, cX7_act, 5, (some .boolean))
abbrev mX7_startTune : x_Mt := (yX7_startTune, cX7_startTune, 2, (some .boolean))
abbrev mX2_slantStops : x_Mt := (yX2_slantStops, cX2_slantStops, 2, (some .boolean))
abbrev mX2_offenders : x_Mt := (yX2_offenders, cX2_offenders, 4, (some .int))
abbrev mX2_farOf : x_Mt := (yX2_farOf, cX2_farOf, 2, (some .int))
abbrev mX2_xOf : x_Mt := (yX2_xOf, cX2_xOf, 2, (some .int))
abbrev mX2_yOf : x_Mt := (yX2_yOf, cX2_yOf, 2, (some .int))
abbrev mX8_far : x_Mt := (yX8_far, cX8_far, 4, (some .int))
abbrev mJ9_abs_0f7a4 : x_Mt := (yJ9_abs_0f7a4, cJ9_abs_0f7a4, 1, (some .int))
abbrev mX2_earshot : x_Mt := (yX2_earshot, cX2_earshot, 7, (some .int))
abbrev mX2_kindOf : x_Mt := (yX2_kindOf, cX2_kindOf, 2, (some .int))
abbrev mX2_leastOf : x_Mt := (yX2_leastOf, cX2_leastOf, 2, (some .int))
abbrev mX2_reachOf : x_Mt := (yX2_reachOf, cX2_reachOf, 2, (some .int))
abbrev mX7_straighten : x_Mt := (yX7_straighten, cX7_straighten, 1, (some .boolean))
abbrev mX7_question : x_Mt := (yX7_question, cX7_question, 2, (some .boolean))
abbrev mX2_isOffending : x_Mt := (yX2_isOffending, cX2_isOffending, 2, (some .boolean))
abbrev mX7_bring : x_Mt := (yX7_bring, cX7_bring, 4, (some .boolean))
abbrev mX2_farFromGoer : x_Mt := (yX2_farFromGoer, cX2_farFromGoer, 4, (some .int))
abbrev mX7_makeGood : x_Mt := (yX7_makeGood, cX7_makeGood, 5, (some .boolean))
abbrev mX7_offend : x_Mt := (yX7_offend, cX7_offend, 5, (some .boolean))
abbrev mX11_state : x_Mt := (yX11_state, cX11_state, 7, (some .int))
abbrev mX7_tell : x_Mt := (yX7_tell, cX7_tell, 2, (some .int))
abbrev mX7_tellOfGoer : x_Mt := (yX7_tellOfGoer, cX7_tellOfGoer, 4, (some .int))
abbrev mX11_mend : x_Mt := (yX11_mend, cX11_mend, 4, (some .int))
abbrev mX3_toMend : x_Mt := (yX3_toMend, cX3_toMend, 6, (some .int))
abbrev mX11_quiet : x_Mt := (yX11_quiet, cX11_quiet, 4, (some .int))
abbrev mX0_nearestQuiet : x_Mt := (yX0_nearestQuiet, cX0_nearestQuiet, 6, (some .int))
abbrev mX0_listen : x_Mt := (yX0_listen, cX0_listen, 3, none)
abbrev mX2_farFromStand : x_Mt := (yX2_farFromStand, cX2_farFromStand, 3, (some .int))
abbrev mX0_heardFrom : x_Mt := (yX0_heardFrom, cX0_heardFrom, 5, (some .int))
abbrev mX0_quietPlaces : x_Mt := (yX0_quietPlaces, cX0_quietPlaces, 4, (some .int))
abbrev mX11_asking : x_Mt := (yX11_asking, cX11_asking, 4, (some .int))
abbrev mX3_questionsForSure : x_Mt := (yX3_questionsForSure, cX3_questionsForSure, 3, (some .int))
abbrev mX3_meanQuestions : x_Mt := (yX3_meanQuestions, cX3_meanQuestions, 7, (some .int))
abbrev mX2_wrongsTogether : x_Mt := (yX2_wrongsTogether, cX2_wrongsTogether, 4, (some .int))
abbrev mX3_takeLightest : x_Mt := (yX3_takeLightest, cX3_takeLightest, 4, (some .int))
abbrev mX2_allWrongs : x_Mt := (yX2_allWrongs, cX2_allWrongs, 3, (some .int))
abbrev mX8_part : x_Mt := (yX8_part, cX8_part, 7, (some .long))
abbrev mX8_divisor : x_Mt := (yX8_divisor, cX8_divisor, 11, (some .long))
abbrev mX11_confess : x_Mt := (yX11_confess, cX11_confess, 5, (some .int))
abbrev mX5_cheapest : x_Mt := (yX5_cheapest, cX5_cheapest, 6, (some .int))
abbrev mX5_needed : x_Mt := (yX5_needed, cX5_needed, 3, (some .int))
abbrev mX2_wrongsOfKind : x_Mt := (yX2_wrongsOfKind, cX2_wrongsOfKind, 4, (some .int))
abbrev mX5_kindsOf : x_Mt := (yX5_kindsOf, cX5_kindsOf, 4, (some .int))
abbrev mX5_priceOf : x_Mt := (yX5_priceOf, cX5_priceOf, 4, (some .int))
abbrev mX11_route : x_Mt := (yX11_route, cX11_route, 4, (some .int))
abbrev mX10_lay : x_Mt := (yX10_lay, cX10_lay, 5, none)
abbrev mX10_measure : x_Mt := (yX10_measure, cX10_measure, 6, none)
abbrev mX10_xOf : x_Mt := (yX10_xOf, cX10_xOf, 2, (some .int))
abbrev mX10_yOf : x_Mt := (yX10_yOf, cX10_yOf, 2, (some .int))
abbrev mX10_goOn : x_Mt := (yX10_goOn, cX10_goOn, 14, none)
abbrev mX10_follow : x_Mt := (yX10_follow, cX10_follow, 4, none)
abbrev mJ9_min_7cf53 : x_Mt := (yJ9_min_7cf53, cJ9_min_7cf53, 2, (some .int))
abbrev mX10_townAt : x_Mt := (yX10_townAt, cX10_townAt, 3, (some .int))
abbrev mX11_byTurns : x_Mt := (yX11_byTurns, cX11_byTurns, 5, (some .int))
abbrev mX0_firstTurn : x_Mt := (yX0_firstTurn, cX0_firstTurn, 6, (some .int))
abbrev mX0_wouldOffend : x_Mt := (yX0_wouldOffend, cX0_wouldOffend, 3, (some .int))
abbrev mX0_lookAhead : x_Mt := (yX0_lookAhead, cX0_lookAhead, 8, (some .int))
abbrev mJ6_bitCount_0f7a4 : x_Mt := (yJ6_bitCount_0f7a4, cJ6_bitCount_0f7a4, 1, (some .int))
abbrev mX0_inTheEnd : x_Mt := (yX0_inTheEnd, cX0_inTheEnd, 2, (some .int))
abbrev mX11_log : x_Mt := (yX11_log, cX11_log, 4, (some .int))
abbrev mX11_ledgerOf : x_Mt := (yX11_ledgerOf, cX11_ledgerOf, 2, (some (.object "UprightFair$Ledger")))
abbrev mX4_tell : x_Mt := (yX4_tell, cX4_tell, 2, (some .int))
abbrev mX11_fits : x_Mt := (yX11_fits, cX11_fits, 6, (some .int))
abbrev mX4_fitting : x_Mt := (yX4_fitting, cX4_fitting, 4, (some .long))
abbrev mX4_liesBy : x_Mt := (yX4_liesBy, cX4_liesBy, 4, (some .int))
abbrev mX4_isLie : x_Mt := (yX4_isLie, cX4_isLie, 4, (some .boolean))
abbrev mJ13_bitCount_95d88 : x_Mt := (yJ13_bitCount_95d88, cJ13_bitCount_95d88, 2, (some .int))
abbrev mX4_bestQuestion : x_Mt := (yX4_bestQuestion, cX4_bestQuestion, 8, (some .int))
abbrev mX4_stopping : x_Mt := (yX4_stopping, cX4_stopping, 5, (some .int))
abbrev mX4_isIn : x_Mt := (yX4_isIn, cX4_isIn, 3, (some .boolean))
abbrev mX4_sure : x_Mt := (yX4_sure, cX4_sure, 4, (some .int))
abbrev mX4_heartAt : x_Mt := (yX4_heartAt, cX4_heartAt, 5, (some .int))
abbrev mX11_drawn : x_Mt := (yX11_drawn, cX11_drawn, 6, (some .int))
abbrev mX7_runByLot : x_Mt := (yX7_runByLot, cX7_runByLot, 5, none)
abbrev mX7_drawDeed : x_Mt := (yX7_drawDeed, cX7_drawDeed, 2, (some .boolean))
abbrev mX7_drawBelow : x_Mt := (yX7_drawBelow, cX7_drawBelow, 2, (some .int))
abbrev mX11_upright : x_Mt := (yX11_upright, cX11_upright, 4, (some .int))
abbrev mX3_withoutWrongs : x_Mt := (yX3_withoutWrongs, cX3_withoutWrongs, 3, (some .int))
abbrev mX3_worst : x_Mt := (yX3_worst, cX3_worst, 4, (some .int))
abbrev mX3_mostKind : x_Mt := (yX3_mostKind, cX3_mostKind, 3, (some .int))
abbrev mX2_heard : x_Mt := (yX2_heard, cX2_heard, 3, (some .int))
abbrev mX2_within : x_Mt := (yX2_within, cX2_within, 4, (some .int))
abbrev mX2_idleMinds : x_Mt := (yX2_idleMinds, cX2_idleMinds, 4, (some .int))
abbrev mX3_tree : x_Mt := (yX3_tree, cX3_tree, 7, (some .int))
abbrev mX3_nearestApart : x_Mt := (yX3_nearestApart, cX3_nearestApart, 6, (some .int))
abbrev mX3_between : x_Mt := (yX3_between, cX3_between, 3, (some .int))
abbrev mX3_nearestTwo : x_Mt := (yX3_nearestTwo, cX3_nearestTwo, 5, (some .int))
abbrev mX3_betweenNearest : x_Mt := (yX3_betweenNearest, cX3_betweenNearest, 2, (some .int))
abbrev mX2_broadest : x_Mt := (yX2_broadest, cX2_broadest, 5, (some .int))
abbrev mX2_offendersBy : x_Mt := (yX2_offendersBy, cX2_offendersBy, 2, (some .int))
abbrev mX11_share : x_Mt := (yX11_share, cX11_share, 5, (some .int))
abbrev mX11_walk : x_Mt := (yX11_walk, cX11_walk, 6, (some .int))
abbrev mX0_refuge : x_Mt := (yX0_refuge, cX0_refuge, 8, (some .int))
abbrev mX11_forget : x_Mt := (yX11_forget, cX11_forget, 5, (some .int))
abbrev mX2_offendedMinds : x_Mt := (yX2_offendedMinds, cX2_offendedMinds, 3, (some .int))
abbrev mX11_round : x_Mt := (yX11_round, cX11_round, 4, (some .int))
abbrev mX11_centre : x_Mt := (yX11_centre, cX11_centre, 4, (some .int))
abbrev mX3_middle : x_Mt := (yX3_middle, cX3_middle, 5, (some .int))
abbrev mX3_farToAll : x_Mt := (yX3_farToAll, cX3_farToAll, 4, (some .int))
abbrev mX0_worstPlace : x_Mt := (yX0_worstPlace, cX0_worstPlace, 6, (some .int))
abbrev mX0_offendersAt : x_Mt := (yX0_offendersAt, cX0_offendersAt, 3, (some .int))
abbrev mX3_twins : x_Mt := (yX3_twins, cX3_twins, 4, (some .int))
abbrev mX3_matches : x_Mt := (yX3_matches, cX3_matches, 4, (some .boolean))
abbrev mX0_grace : x_Mt := (yX0_grace, cX0_grace, 4, (some .int))
abbrev mX0_deafness : x_Mt := (yX0_deafness, cX0_deafness, 3, (some .int))
abbrev mX11_ring : x_Mt := (yX11_ring, cX11_ring, 4, (some .int))
abbrev mX11_ladder : x_Mt := (yX11_ladder, cX11_ladder, 4, (some .int))
abbrev mX3_climb : x_Mt := (yX3_climb, cX3_climb, 6, none)
abbrev mX3_compare : x_Mt := (yX3_compare, cX3_compare, 5, none)
abbrev mX3_hasAbove : x_Mt := (yX3_hasAbove, cX3_hasAbove, 4, (some .boolean))
abbrev mX3_firstOfHeight : x_Mt := (yX3_firstOfHeight, cX3_firstOfHeight, 5, (some .int))
abbrev mX3_rungAt : x_Mt := (yX3_rungAt, cX3_rungAt, 2, (some .int))
abbrev mX11_next : x_Mt := (yX11_next, cX11_next, 4, (some .int))
abbrev mX2_playingAfter : x_Mt := (yX2_playingAfter, cX2_playingAfter, 3, (some .int))
abbrev mX11_purse : x_Mt := (yX11_purse, cX11_purse, 6, (some .int))
abbrev mX5_broadest : x_Mt := (yX5_broadest, cX5_broadest, 6, (some .int))
abbrev mX11_calm : x_Mt := (yX11_calm, cX11_calm, 6, (some .long))
abbrev mX8_power : x_Mt := (yX8_power, cX8_power, 5, (some .long))
abbrev mX11_plays : x_Mt := (yX11_plays, cX11_plays, 4, (some .int))
abbrev mX2_playingUpTo : x_Mt := (yX2_playingUpTo, cX2_playingUpTo, 2, (some .int))
abbrev mX11_guess : x_Mt := (yX11_guess, cX11_guess, 8, (some .long))
abbrev mX8_choose : x_Mt := (yX8_choose, cX8_choose, 5, (some .long))
abbrev mX11_after : x_Mt := (yX11_after, cX11_after, 6, (some .int))
abbrev mX7_sumUp : x_Mt := (yX7_sumUp, cX7_sumUp, 2, (some .int))
abbrev mX11_odds : x_Mt := (yX11_odds, cX11_odds, 7, (some .int))
abbrev mX11_small : x_Mt := (yX11_small, cX11_small, 4, (some .int))
abbrev mX4_smallest : x_Mt := (yX4_smallest, cX4_smallest, 4, (some .int))
abbrev mX4_largest : x_Mt := (yX4_largest, cX4_largest, 4, (some .int))
abbrev mX4_fewestLies : x_Mt := (yX4_fewestLies, cX4_fewestLies, 3, (some .int))
abbrev mX4_needless : x_Mt := (yX4_needless, cX4_needless, 3, (some .int))
abbrev mX4_liesBits : x_Mt := (yX4_liesBits, cX4_liesBits, 4, (some .int))
abbrev mX11_count : x_Mt := (yX11_count, cX11_count, 2, (some .int))
abbrev mX11_image : x_Mt := (yX11_image, cX11_image, 2, (some .boolean))
abbrev mX9_copyFrom : x_Mt := (yX9_copyFrom, cX9_copyFrom, 3, none)
abbrev mX11_again : x_Mt := (yX11_again, cX11_again, 2, (some .boolean))
abbrev mX12_init : x_Mt := (yX12_init, cX12_init, 1, none)
abbrev mX12_feed : x_Mt := (yX12_feed, cX12_feed, 6, (some .int))
abbrev mX12_four : x_Mt := (yX12_four, cX12_four, 3, none)
abbrev mX12_end : x_Mt := (yX12_end, cX12_end, 2, (some .int))
abbrev mX12_in : x_Mt := (yX12_in, cX12_in, 3, (some .boolean))
abbrev mX12_text : x_Mt := (yX12_text, cX12_text, 4, (some .int))
abbrev mX12_is : x_Mt := (yX12_is, cX12_is, 3, (some .boolean))
abbrev mX12_readText : x_Mt := (yX12_readText, cX12_readText, 3, (some .boolean))
abbrev mX12_token : x_Mt := (yX12_token, cX12_token, 3, none)
abbrev mX12_see : x_Mt := (yX12_see, cX12_see, 1, (some .int))
abbrev mX12_allLines : x_Mt := (yX12_allLines, cX12_allLines, 6, (some .boolean))
abbrev mX12_fairLine : x_Mt := (yX12_fairLine, cX12_fairLine, 4, (some .boolean))
abbrev mX12_standLine : x_Mt := (yX12_standLine, cX12_standLine, 1, (some .boolean))
abbrev mX12_take : x_Mt := (yX12_take, cX12_take, 4, (some .boolean))
abbrev mX12_fails : x_Mt := (yX12_fails, cX12_fails, 1, (some .boolean))
abbrev mX12_addsFault : x_Mt := (yX12_addsFault, cX12_addsFault, 3, none)
abbrev mX12_goerLine : x_Mt := (yX12_goerLine, cX12_goerLine, 2, (some .boolean))
abbrev mX12_full : x_Mt := (yX12_full, cX12_full, 4, none)
abbrev mX12_keep : x_Mt := (yX12_keep, cX12_keep, 8, none)
abbrev mX12_slantLine : x_Mt := (yX12_slantLine, cX12_slantLine, 1, (some .boolean))
abbrev mX12_mindsLine : x_Mt := (yX12_mindsLine, cX12_mindsLine, 2, (some .boolean))
abbrev mX12_wrongLine : x_Mt := (yX12_wrongLine, cX12_wrongLine, 1, (some .boolean))
abbrev mX12_greater : x_Mt := (yX12_greater, cX12_greater, 2, (some .int))
abbrev mX12_confessLine : x_Mt := (yX12_confessLine, cX12_confessLine, 2, (some .boolean))
abbrev mX12_townLine : x_Mt := (yX12_townLine, cX12_townLine, 2, (some .boolean))
abbrev mX12_dayLine : x_Mt := (yX12_dayLine, cX12_dayLine, 8, (some .boolean))
abbrev mX12_deedBy : x_Mt := (yX12_deedBy, cX12_deedBy, 3, (some .int))
abbrev mX12_lesser : x_Mt := (yX12_lesser, cX12_lesser, 2, (some .int))
abbrev mX12_logLine : x_Mt := (yX12_logLine, cX12_logLine, 5, (some .boolean))
abbrev mX12_store : x_Mt := (yX12_store, cX12_store, 5, none)
abbrev mX12_fault : x_Mt := (yX12_fault, cX12_fault, 2, (some .int))
abbrev mX12_fair : x_Mt := (yX12_fair, cX12_fair, 4, (some .int))
abbrev mX12_hand : x_Mt := (yX12_hand, cX12_hand, 3, (some .boolean))
abbrev mX12_of : x_Mt := (yX12_of, cX12_of, 2, (some .int))
abbrev mX12_isGoer : x_Mt := (yX12_isGoer, cX12_isGoer, 2, (some .boolean))
abbrev mX12_row : x_Mt := (yX12_row, cX12_row, 4, (some .int))
abbrev mX12_deed : x_Mt := (yX12_deed, cX12_deed, 4, (some .int))
abbrev mX12_hasDay : x_Mt := (yX12_hasDay, cX12_hasDay, 2, (some .boolean))
abbrev mX12_deeds : x_Mt := (yX12_deeds, cX12_deeds, 1, (some .int))
abbrev mX12_deedOf : x_Mt := (yX12_deedOf, cX12_deedOf, 3, (some .int))
abbrev mX12_till : x_Mt := (yX12_till, cX12_till, 3, (some .int))
abbrev mX12_layAll : x_Mt := (yX12_layAll, cX12_layAll, 3, (some .boolean))
abbrev mX12_play : x_Mt := (yX12_play, cX12_play, 3, (some .int))
abbrev mX12_doesDeed : x_Mt := (yX12_doesDeed, cX12_doesDeed, 2, (some .boolean))
abbrev mX12_does : x_Mt := (yX12_does, cX12_does, 5, (some .boolean))
abbrev mX12_sounds : x_Mt := (yX12_sounds, cX12_sounds, 1, (some .boolean))
abbrev mX12_offenders : x_Mt := (yX12_offenders, cX12_offenders, 3, (some .int))
abbrev mX12_offends : x_Mt := (yX12_offends, cX12_offends, 5, (some .boolean))
abbrev mX12_fromStand : x_Mt := (yX12_fromStand, cX12_fromStand, 2, (some .int))
abbrev mX12_way : x_Mt := (yX12_way, cX12_way, 5, (some .int))
abbrev mX12_has : x_Mt := (yX12_has, cX12_has, 2, (some .boolean))
abbrev mX12_isSlanted : x_Mt := (yX12_isSlanted, cX12_isSlanted, 2, (some .boolean))
abbrev mX12_fitted : x_Mt := (yX12_fitted, cX12_fitted, 1, (some .boolean))
abbrev mX12_changes : x_Mt := (yX12_changes, cX12_changes, 3, (some .boolean))
abbrev mX12_state : x_Mt := (yX12_state, cX12_state, 5, (some .int))
abbrev mX12_ofState : x_Mt := (yX12_ofState, cX12_ofState, 3, (some .int))
abbrev mX12_mend : x_Mt := (yX12_mend, cX12_mend, 8, (some .int))
abbrev mX12_quiet : x_Mt := (yX12_quiet, cX12_quiet, 8, (some .int))
abbrev mX12_asking : x_Mt := (yX12_asking, cX12_asking, 4, (some .int))
abbrev mX12_questions : x_Mt := (yX12_questions, cX12_questions, 5, (some .int))
abbrev mX12_wrongsOf : x_Mt := (yX12_wrongsOf, cX12_wrongsOf, 4, (some .int))
abbrev mX12_takeLeast : x_Mt := (yX12_takeLeast, cX12_takeLeast, 3, (some .int))
abbrev mX12_allWrongs : x_Mt := (yX12_allWrongs, cX12_allWrongs, 3, (some .int))
abbrev mX12_part : x_Mt := (yX12_part, cX12_part, 3, (some .int))
abbrev mX12_common : x_Mt := (yX12_common, cX12_common, 5, (some .int))
abbrev mX12_confess : x_Mt := (yX12_confess, cX12_confess, 7, (some .int))
abbrev mX12_mindedKinds : x_Mt := (yX12_mindedKinds, cX12_mindedKinds, 4, (some .int))
abbrev mX12_pricesOf : x_Mt := (yX12_pricesOf, cX12_pricesOf, 4, (some .int))
abbrev mX12_pardons : x_Mt := (yX12_pardons, cX12_pardons, 4, (some .int))
abbrev mX12_route : x_Mt := (yX12_route, cX12_route, 3, (some .int))
abbrev mX12_layRoute : x_Mt := (yX12_layRoute, cX12_layRoute, 4, none)
abbrev mX12_findRoutes : x_Mt := (yX12_findRoutes, cX12_findRoutes, 5, none)
abbrev mX12_scoreBy : x_Mt := (yX12_scoreBy, cX12_scoreBy, 5, (some .int))
abbrev mX12_townWay : x_Mt := (yX12_townWay, cX12_townWay, 7, (some .int))
abbrev mX12_byTurns : x_Mt := (yX12_byTurns, cX12_byTurns, 7, (some .int))
abbrev mX12_nines : x_Mt := (yX12_nines, cX12_nines, 3, (some .int))
abbrev mX12_endOf : x_Mt := (yX12_endOf, cX12_endOf, 6, (some .int))
abbrev mX12_asTold : x_Mt := (yX12_asTold, cX12_asTold, 2, none)
abbrev mX12_turned : x_Mt := (yX12_turned, cX12_turned, 4, none)
abbrev mX12_ones : x_Mt := (yX12_ones, cX12_ones, 3, (some .int))
abbrev mX12_fold : x_Mt := (yX12_fold, cX12_fold, 6, (some .int))
abbrev mX12_log : x_Mt := (yX12_log, cX12_log, 4, (some .int))
abbrev mX12_hasLog : x_Mt := (yX12_hasLog, cX12_hasLog, 2, (some .boolean))
abbrev mX12_lies : x_Mt := (yX12_lies, cX12_lies, 1, (some .int))
abbrev mX12_facts : x_Mt := (yX12_facts, cX12_facts, 1, (some .int))
abbrev mX12_factOf : x_Mt := (yX12_factOf, cX12_factOf, 3, (some .int))
abbrev mX12_fits : x_Mt := (yX12_fits, cX12_fits, 3, (some .int))
abbrev mX12_layLog : x_Mt := (yX12_layLog, cX12_layLog, 2, (some .boolean))
abbrev mX12_findHearts : x_Mt := (yX12_findHearts, cX12_findHearts, 2, none)
abbrev mX12_liesOf : x_Mt := (yX12_liesOf, cX12_liesOf, 5, (some .int))
abbrev mX12_halts : x_Mt := (yX12_halts, cX12_halts, 2, (some .boolean))
abbrev mX12_sure : x_Mt := (yX12_sure, cX12_sure, 3, (some .int))
abbrev mX12_manyHalt : x_Mt := (yX12_manyHalt, cX12_manyHalt, 4, (some .int))
abbrev mX12_askWhat : x_Mt := (yX12_askWhat, cX12_askWhat, 5, (some .int))
abbrev mX12_drawn : x_Mt := (yX12_drawn, cX12_drawn, 6, (some .int))
abbrev mX12_drawDeed : x_Mt := (yX12_drawDeed, cX12_drawDeed, 5, none)
abbrev mX12_draw : x_Mt := (yX12_draw, cX12_draw, 2, (some .int))
abbrev mX12_upright : x_Mt := (yX12_upright, cX12_upright, 3, (some .int))
abbrev mX12_clean : x_Mt := (yX12_clean, cX12_clean, 3, (some .int))
abbrev mX12_worst : x_Mt := (yX12_worst, cX12_worst, 3, (some .int))
abbrev mX12_mostKind : x_Mt := (yX12_mostKind, cX12_mostKind, 6, (some .int))
abbrev mX12_heard : x_Mt := (yX12_heard, cX12_heard, 4, (some .int))
abbrev mX12_idle : x_Mt := (yX12_idle, cX12_idle, 4, (some .int))
abbrev mX12_offendersBut : x_Mt := (yX12_offendersBut, cX12_offendersBut, 3, (some .int))
abbrev mX12_tree : x_Mt := (yX12_tree, cX12_tree, 8, (some .int))
abbrev mX12_fromJoined : x_Mt := (yX12_fromJoined, cX12_fromJoined, 5, (some .int))
abbrev mX12_between : x_Mt := (yX12_between, cX12_between, 3, (some .int))
abbrev mX12_nearest : x_Mt := (yX12_nearest, cX12_nearest, 6, (some .int))
abbrev mX12_broad : x_Mt := (yX12_broad, cX12_broad, 6, (some .int))
abbrev mX12_share : x_Mt := (yX12_share, cX12_share, 4, (some .int))
abbrev mX12_walk : x_Mt := (yX12_walk, cX12_walk, 10, (some .int))
abbrev mX12_forget : x_Mt := (yX12_forget, cX12_forget, 6, (some .int))
abbrev mX12_round : x_Mt := (yX12_round, cX12_round, 8, (some .int))
abbrev mX12_roundBy : x_Mt := (yX12_roundBy, cX12_roundBy, 4, (some .int))
abbrev mX12_centre : x_Mt := (yX12_centre, cX12_centre, 3, (some .int))
abbrev mX12_middle : x_Mt := (yX12_middle, cX12_middle, 7, (some .int))
abbrev mX12_spot : x_Mt := (yX12_spot, cX12_spot, 6, (some .int))
abbrev mX12_twins : x_Mt := (yX12_twins, cX12_twins, 6, (some .int))
abbrev mX12_grace : x_Mt := (yX12_grace, cX12_grace, 1, (some .int))
abbrev mX12_deaf : x_Mt := (yX12_deaf, cX12_deaf, 1, (some .int))
abbrev mX12_ring : x_Mt := (yX12_ring, cX12_ring, 5, (some .int))
abbrev mX12_ladder : x_Mt := (yX12_ladder, cX12_ladder, 7, (some .int))
abbrev mX12_findRungs : x_Mt := (yX12_findRungs, cX12_findRungs, 4, none)
abbrev mX12_isRung : x_Mt := (yX12_isRung, cX12_isRung, 6, (some .boolean))
abbrev mX12_next : x_Mt := (yX12_next, cX12_next, 4, (some .int))
abbrev mX12_purse : x_Mt := (yX12_purse, cX12_purse, 6, (some .int))
abbrev mX12_calm : x_Mt := (yX12_calm, cX12_calm, 5, (some .long))
abbrev mX12_times : x_Mt := (yX12_times, cX12_times, 6, (some .long))
abbrev mX12_partL : x_Mt := (yX12_partL, cX12_partL, 5, (some .long))
abbrev mX12_commonL : x_Mt := (yX12_commonL, cX12_commonL, 10, (some .long))
abbrev mX12_plays : x_Mt := (yX12_plays, cX12_plays, 6, (some .int))
abbrev mX12_guess : x_Mt := (yX12_guess, cX12_guess, 5, (some .long))
abbrev mX12_choose : x_Mt := (yX12_choose, cX12_choose, 5, (some .long))
abbrev mX12_after : x_Mt := (yX12_after, cX12_after, 16, (some .int))
abbrev mX12_odds : x_Mt := (yX12_odds, cX12_odds, 4, (some .int))
abbrev mX12_small : x_Mt := (yX12_small, cX12_small, 3, (some .int))
abbrev mX12_sizeOf : x_Mt := (yX12_sizeOf, cX12_sizeOf, 5, (some .int))
abbrev mX12_fewestLies : x_Mt := (yX12_fewestLies, cX12_fewestLies, 3, (some .int))
abbrev mX12_needless : x_Mt := (yX12_needless, cX12_needless, 3, (some .int))
abbrev mX12_isNeedless : x_Mt := (yX12_isNeedless, cX12_isNeedless, 5, (some .boolean))
abbrev mX12_count : x_Mt := (yX12_count, cX12_count, 2, (some .int))
abbrev mX12_image : x_Mt := (yX12_image, cX12_image, 2, (some .boolean))
abbrev mX12_copyAll : x_Mt := (yX12_copyAll, cX12_copyAll, 4, none)
abbrev mX12_copyRow : x_Mt := (yX12_copyRow, cX12_copyRow, 5, none)
abbrev mX12_again : x_Mt := (yX12_again, cX12_again, 2, (some .boolean))
theorem kcX11_init : x_code mX11_init ∈ x_WS := x_i1 27 (by decide +kernel) rfl
theorem kcX9_init : x_code mX9_init ∈ x_WS := x_i1 35 (by decide +kernel) rfl
theorem kcX2_init : x_code mX2_init ∈ x_WS := x_i1 46 (by decide +kernel) rfl
theorem kcX1_init : x_code mX1_init ∈ x_WS := x_i1 114 (by decide +kernel) rfl
theorem kcX4_init : x_code mX4_init ∈ x_WS := x_i1 128 (by decide +kernel) rfl
theorem kcX6_init : x_code mX6_init ∈ x_WS := x_i1 184 (by decide +kernel) rfl
theorem kcX7_init : x_code mX7_init ∈ x_WS := x_i2 2 (by decide +kernel) rfl
theorem kcX10_init : x_code mX10_init ∈ x_WS := x_i2 56 (by decide +kernel) rfl
theorem kcX3_init : x_code mX3_init ∈ x_WS := x_i2 89 (by decide +kernel) rfl
theorem kcX0_init : x_code mX0_init ∈ x_WS := x_i2 115 (by decide +kernel) rfl
theorem kcX11_feed : x_code mX11_feed ∈ x_WS := x_i2 149 (by decide +kernel) rfl
theorem kcX9_put : x_code mX9_put ∈ x_WS := x_i2 153 (by decide +kernel) rfl
theorem kcX11_end : x_code mX11_end ∈ x_WS := x_i2 157 (by decide +kernel) rfl
theorem kcX11_text : x_code mX11_text ∈ x_WS := x_i2 161 (by decide +kernel) rfl
theorem kcX9_numberFor : x_code mX9_numberFor ∈ x_WS := x_i2 165 (by decide +kernel) rfl
theorem kcX9_has : x_code mX9_has ∈ x_WS := x_i2 169 (by decide +kernel) rfl
theorem kcX8_at : x_code mX8_at ∈ x_WS := x_i2 172 (by decide +kernel) rfl
theorem kcX6_takeTape : x_code mX6_takeTape ∈ x_WS := x_i2 176 (by decide +kernel) rfl
theorem kcX6_read : x_code mX6_read ∈ x_WS := x_i2 183 (by decide +kernel) rfl
theorem kcX2_clear : x_code mX2_clear ∈ x_WS := x_i2 187 (by decide +kernel) rfl
theorem kcJ7_fill_53178 : x_code mJ7_fill_53178 ∈ x_WS := x_i2 190 (by decide +kernel) rfl
theorem kcX4_clear : x_code mX4_clear ∈ x_WS := x_i2 194 (by decide +kernel) rfl
theorem kcX6_readLines : x_code mX6_readLines ∈ x_WS := x_i2 198 (by decide +kernel) rfl
theorem kcX6_step : x_code mX6_step ∈ x_WS := x_i2 202 (by decide +kernel) rfl
theorem kcX6_byteAt : x_code mX6_byteAt ∈ x_WS := x_i2 206 (by decide +kernel) rfl
theorem kcX6_isBlank : x_code mX6_isBlank ∈ x_WS := x_i2 209 (by decide +kernel) rfl
theorem kcX6_isLetter : x_code mX6_isLetter ∈ x_WS := x_i2 212 (by decide +kernel) rfl
theorem kcX6_isDigit : x_code mX6_isDigit ∈ x_WS := x_i2 215 (by decide +kernel) rfl
theorem kcX6_stepOverDigits : x_code mX6_stepOverDigits ∈ x_WS := x_i2 219 (by decide +kernel) rfl
theorem kcX6_lineNamed : x_code mX6_lineNamed ∈ x_WS := x_i2 223 (by decide +kernel) rfl
theorem kcX6_nameOf : x_code mX6_nameOf ∈ x_WS := x_i2 229 (by decide +kernel) rfl
theorem kcX6_isToken : x_code mX6_isToken ∈ x_WS := x_i3 9 (by decide +kernel) rfl
theorem kcJ0_length_8abf5 : x_code mJ0_length_8abf5 ∈ x_WS := x_i3 13 (by decide +kernel) rfl
theorem kcJ0_coder_7d493 : x_code mJ0_coder_7d493 ∈ x_WS := x_i3 17 (by decide +kernel) rfl
theorem kcJ0_charAt_5068e : x_code mJ0_charAt_5068e ∈ x_WS := x_i3 23 (by decide +kernel) rfl
theorem kcJ0_isLatin1_aae02 : x_code mJ0_isLatin1_aae02 ∈ x_WS := x_i3 27 (by decide +kernel) rfl
theorem kcJ1_charAt_3b067 : x_code mJ1_charAt_3b067 ∈ x_WS := x_i3 30 (by decide +kernel) rfl
theorem kcJ0_checkIndex_df160 : x_code mJ0_checkIndex_df160 ∈ x_WS := x_i3 33 (by decide +kernel) rfl
theorem kcJ3_checkIndex_8e157 : x_code mJ3_checkIndex_8e157 ∈ x_WS := x_i3 38 (by decide +kernel) rfl
theorem kcJ2_charAt_3b067 : x_code mJ2_charAt_3b067 ∈ x_WS := x_i3 41 (by decide +kernel) rfl
theorem kcJ2_checkIndex_2214a : x_code mJ2_checkIndex_2214a ∈ x_WS := x_i3 44 (by decide +kernel) rfl
theorem kcJ2_length_9d52b : x_code mJ2_length_9d52b ∈ x_WS := x_i3 47 (by decide +kernel) rfl
theorem kcJ2_getChar_3b067 : x_code mJ2_getChar_3b067 ∈ x_WS := x_i3 51 (by decide +kernel) rfl
theorem kcX6_readLine : x_code mX6_readLine ∈ x_WS := x_i3 61 (by decide +kernel) rfl
theorem kcX6_isOneTooMany : x_code mX6_isOneTooMany ∈ x_WS := x_i3 65 (by decide +kernel) rfl
theorem kcX6_blame : x_code mX6_blame ∈ x_WS := x_i3 69 (by decide +kernel) rfl
theorem kcX8_set : x_code mX8_set ∈ x_WS := x_i3 78 (by decide +kernel) rfl
theorem kcX6_keep : x_code mX6_keep ∈ x_WS := x_i3 82 (by decide +kernel) rfl
theorem kcX6_keepOfLog : x_code mX6_keepOfLog ∈ x_WS := x_i3 86 (by decide +kernel) rfl
theorem kcX4_add : x_code mX4_add ∈ x_WS := x_i3 90 (by decide +kernel) rfl
theorem kcX1_add : x_code mX1_add ∈ x_WS := x_i3 95 (by decide +kernel) rfl
theorem kcX6_keepOfFair : x_code mX6_keepOfFair ∈ x_WS := x_i3 101 (by decide +kernel) rfl
theorem kcX2_setWrongs : x_code mX2_setWrongs ∈ x_WS := x_i3 105 (by decide +kernel) rfl
theorem kcX2_setPlace : x_code mX2_setPlace ∈ x_WS := x_i3 110 (by decide +kernel) rfl
theorem kcX6_keepRow : x_code mX6_keepRow ∈ x_WS := x_i3 114 (by decide +kernel) rfl
theorem kcX9_take : x_code mX9_take ∈ x_WS := x_i3 118 (by decide +kernel) rfl
theorem kcX2_copyFrom : x_code mX2_copyFrom ∈ x_WS := x_i3 122 (by decide +kernel) rfl
theorem kcX1_copyFrom : x_code mX1_copyFrom ∈ x_WS := x_i3 127 (by decide +kernel) rfl
theorem kcX4_copyFrom : x_code mX4_copyFrom ∈ x_WS := x_i3 132 (by decide +kernel) rfl
theorem kcJ9_max_7cf53 : x_code mJ9_max_7cf53 ∈ x_WS := x_i3 136 (by decide +kernel) rfl
theorem kcX11_fault : x_code mX11_fault ∈ x_WS := x_i3 140 (by decide +kernel) rfl
theorem kcX11_fair : x_code mX11_fair ∈ x_WS := x_i3 144 (by decide +kernel) rfl
theorem kcX11_fairOf : x_code mX11_fairOf ∈ x_WS := x_i3 148 (by decide +kernel) rfl
theorem kcX2_tell : x_code mX2_tell ∈ x_WS := x_i3 153 (by decide +kernel) rfl
theorem kcX2_tellWhole : x_code mX2_tellWhole ∈ x_WS := x_i3 157 (by decide +kernel) rfl
theorem kcX2_tellSingle : x_code mX2_tellSingle ∈ x_WS := x_i3 161 (by decide +kernel) rfl
theorem kcX2_hasGoer : x_code mX2_hasGoer ∈ x_WS := x_i3 166 (by decide +kernel) rfl
theorem kcX2_wrongsOf : x_code mX2_wrongsOf ∈ x_WS := x_i3 170 (by decide +kernel) rfl
theorem kcX11_deed : x_code mX11_deed ∈ x_WS := x_i3 174 (by decide +kernel) rfl
theorem kcX11_dayOf : x_code mX11_dayOf ∈ x_WS := x_i3 178 (by decide +kernel) rfl
theorem kcX1_tell : x_code mX1_tell ∈ x_WS := x_i3 182 (by decide +kernel) rfl
theorem kcX1_part : x_code mX1_part ∈ x_WS := x_i3 186 (by decide +kernel) rfl
theorem kcX11_till : x_code mX11_till ∈ x_WS := x_i3 190 (by decide +kernel) rfl
theorem kcX7_run : x_code mX7_run ∈ x_WS := x_i3 194 (by decide +kernel) rfl
theorem kcX7_begin : x_code mX7_begin ∈ x_WS := x_i3 198 (by decide +kernel) rfl
theorem kcX7_act : x_code mX7_act ∈ x_WS := x_i3 204 (by decide +kernel) rfl
theorem kcX7_startTune : x_code mX7_startTune ∈ x_WS := x_i3 208 (by decide +kernel) rfl
theorem kcX2_slantStops : x_code mX2_slantStops ∈ x_WS := x_i3 212 (by decide +kernel) rfl
theorem kcX2_offenders : x_code mX2_offenders ∈ x_WS := x_i3 216 (by decide +kernel) rfl
theorem kcX2_farOf : x_code mX2_farOf ∈ x_WS := x_i3 220 (by decide +kernel) rfl
theorem kcX2_xOf : x_code mX2_xOf ∈ x_WS := x_i3 224 (by decide +kernel) rfl
theorem kcX2_yOf : x_code mX2_yOf ∈ x_WS := x_i3 228 (by decide +kernel) rfl
theorem kcX8_far : x_code mX8_far ∈ x_WS := x_i3 231 (by decide +kernel) rfl
theorem kcJ9_abs_0f7a4 : x_code mJ9_abs_0f7a4 ∈ x_WS := x_i3 234 (by decide +kernel) rfl
theorem kcX2_earshot : x_code mX2_earshot ∈ x_WS := x_i3 238 (by decide +kernel) rfl
theorem kcX2_kindOf : x_code mX2_kindOf ∈ x_WS := x_i4 2 (by decide +kernel) rfl
theorem kcX2_leastOf : x_code mX2_leastOf ∈ x_WS := x_i4 6 (by decide +kernel) rfl
theorem kcX2_reachOf : x_code mX2_reachOf ∈ x_WS := x_i4 10 (by decide +kernel) rfl
theorem kcX7_straighten : x_code mX7_straighten ∈ x_WS := x_i4 16 (by decide +kernel) rfl
theorem kcX7_question : x_code mX7_question ∈ x_WS := x_i4 21 (by decide +kernel) rfl
theorem kcX2_isOffending : x_code mX2_isOffending ∈ x_WS := x_i4 25 (by decide +kernel) rfl
theorem kcX7_bring : x_code mX7_bring ∈ x_WS := x_i4 29 (by decide +kernel) rfl
theorem kcX2_farFromGoer : x_code mX2_farFromGoer ∈ x_WS := x_i4 33 (by decide +kernel) rfl
theorem kcX7_makeGood : x_code mX7_makeGood ∈ x_WS := x_i4 38 (by decide +kernel) rfl
theorem kcX7_offend : x_code mX7_offend ∈ x_WS := x_i4 44 (by decide +kernel) rfl
theorem kcX11_state : x_code mX11_state ∈ x_WS := x_i4 48 (by decide +kernel) rfl
theorem kcX7_tell : x_code mX7_tell ∈ x_WS := x_i4 52 (by decide +kernel) rfl
theorem kcX7_tellOfGoer : x_code mX7_tellOfGoer ∈ x_WS := x_i4 56 (by decide +kernel) rfl
theorem kcX11_mend : x_code mX11_mend ∈ x_WS := x_i4 62 (by decide +kernel) rfl
theorem kcX3_toMend : x_code mX3_toMend ∈ x_WS := x_i4 66 (by decide +kernel) rfl
theorem kcX11_quiet : x_code mX11_quiet ∈ x_WS := x_i4 76 (by decide +kernel) rfl
theorem kcX0_nearestQuiet : x_code mX0_nearestQuiet ∈ x_WS := x_i4 80 (by decide +kernel) rfl
theorem kcX0_listen : x_code mX0_listen ∈ x_WS := x_i4 84 (by decide +kernel) rfl
theorem kcX2_farFromStand : x_code mX2_farFromStand ∈ x_WS := x_i4 90 (by decide +kernel) rfl
theorem kcX0_heardFrom : x_code mX0_heardFrom ∈ x_WS := x_i4 94 (by decide +kernel) rfl
theorem kcX0_quietPlaces : x_code mX0_quietPlaces ∈ x_WS := x_i4 100 (by decide +kernel) rfl
theorem kcX11_asking : x_code mX11_asking ∈ x_WS := x_i4 104 (by decide +kernel) rfl
theorem kcX3_questionsForSure : x_code mX3_questionsForSure ∈ x_WS := x_i4 107 (by decide +kernel) rfl
theorem kcX3_meanQuestions : x_code mX3_meanQuestions ∈ x_WS := x_i4 111 (by decide +kernel) rfl
theorem kcX2_wrongsTogether : x_code mX2_wrongsTogether ∈ x_WS := x_i4 115 (by decide +kernel) rfl
theorem kcX3_takeLightest : x_code mX3_takeLightest ∈ x_WS := x_i4 120 (by decide +kernel) rfl
theorem kcX2_allWrongs : x_code mX2_allWrongs ∈ x_WS := x_i4 125 (by decide +kernel) rfl
theorem kcX8_part : x_code mX8_part ∈ x_WS := x_i4 129 (by decide +kernel) rfl
theorem kcX8_divisor : x_code mX8_divisor ∈ x_WS := x_i4 132 (by decide +kernel) rfl
theorem kcX11_confess : x_code mX11_confess ∈ x_WS := x_i4 137 (by decide +kernel) rfl
theorem kcX5_cheapest : x_code mX5_cheapest ∈ x_WS := x_i4 140 (by decide +kernel) rfl
theorem kcX5_needed : x_code mX5_needed ∈ x_WS := x_i4 143 (by decide +kernel) rfl
theorem kcX2_wrongsOfKind : x_code mX2_wrongsOfKind ∈ x_WS := x_i4 148 (by decide +kernel) rfl
theorem kcX5_kindsOf : x_code mX5_kindsOf ∈ x_WS := x_i4 151 (by decide +kernel) rfl
theorem kcX5_priceOf : x_code mX5_priceOf ∈ x_WS := x_i4 155 (by decide +kernel) rfl
theorem kcX11_route : x_code mX11_route ∈ x_WS := x_i4 160 (by decide +kernel) rfl
theorem kcX10_lay : x_code mX10_lay ∈ x_WS := x_i4 164 (by decide +kernel) rfl
theorem kcX10_measure : x_code mX10_measure ∈ x_WS := x_i4 168 (by decide +kernel) rfl
theorem kcX10_xOf : x_code mX10_xOf ∈ x_WS := x_i4 171 (by decide +kernel) rfl
theorem kcX10_yOf : x_code mX10_yOf ∈ x_WS := x_i4 175 (by decide +kernel) rfl
theorem kcX10_goOn : x_code mX10_goOn ∈ x_WS := x_i4 180 (by decide +kernel) rfl
theorem kcX10_follow : x_code mX10_follow ∈ x_WS := x_i4 185 (by decide +kernel) rfl
theorem kcJ9_min_7cf53 : x_code mJ9_min_7cf53 ∈ x_WS := x_i4 188 (by decide +kernel) rfl
theorem kcX10_townAt : x_code mX10_townAt ∈ x_WS := x_i4 192 (by decide +kernel) rfl
theorem kcX11_byTurns : x_code mX11_byTurns ∈ x_WS := x_i4 196 (by decide +kernel) rfl
theorem kcX0_firstTurn : x_code mX0_firstTurn ∈ x_WS := x_i4 199 (by decide +kernel) rfl
theorem kcX0_wouldOffend : x_code mX0_wouldOffend ∈ x_WS := x_i4 203 (by decide +kernel) rfl
theorem kcX0_lookAhead : x_code mX0_lookAhead ∈ x_WS := x_i4 206 (by decide +kernel) rfl
theorem kcJ6_bitCount_0f7a4 : x_code mJ6_bitCount_0f7a4 ∈ x_WS := x_i4 209 (by decide +kernel) rfl
theorem kcX0_inTheEnd : x_code mX0_inTheEnd ∈ x_WS := x_i4 217 (by decide +kernel) rfl
theorem kcX11_log : x_code mX11_log ∈ x_WS := x_i4 221 (by decide +kernel) rfl
theorem kcX11_ledgerOf : x_code mX11_ledgerOf ∈ x_WS := x_i4 225 (by decide +kernel) rfl
theorem kcX4_tell : x_code mX4_tell ∈ x_WS := x_i4 229 (by decide +kernel) rfl
theorem kcX11_fits : x_code mX11_fits ∈ x_WS := x_i4 234 (by decide +kernel) rfl
theorem kcX4_fitting : x_code mX4_fitting ∈ x_WS := x_i4 238 (by decide +kernel) rfl
theorem kcX4_liesBy : x_code mX4_liesBy ∈ x_WS := x_i5 2 (by decide +kernel) rfl
theorem kcX4_isLie : x_code mX4_isLie ∈ x_WS := x_i5 6 (by decide +kernel) rfl
theorem kcJ13_bitCount_95d88 : x_code mJ13_bitCount_95d88 ∈ x_WS := x_i5 9 (by decide +kernel) rfl
theorem kcX4_bestQuestion : x_code mX4_bestQuestion ∈ x_WS := x_i5 15 (by decide +kernel) rfl
theorem kcX4_stopping : x_code mX4_stopping ∈ x_WS := x_i5 19 (by decide +kernel) rfl
theorem kcX4_isIn : x_code mX4_isIn ∈ x_WS := x_i5 22 (by decide +kernel) rfl
theorem kcX4_sure : x_code mX4_sure ∈ x_WS := x_i5 26 (by decide +kernel) rfl
theorem kcX4_heartAt : x_code mX4_heartAt ∈ x_WS := x_i5 29 (by decide +kernel) rfl
theorem kcX11_drawn : x_code mX11_drawn ∈ x_WS := x_i5 33 (by decide +kernel) rfl
theorem kcX7_runByLot : x_code mX7_runByLot ∈ x_WS := x_i5 37 (by decide +kernel) rfl
theorem kcX7_drawDeed : x_code mX7_drawDeed ∈ x_WS := x_i5 41 (by decide +kernel) rfl
theorem kcX7_drawBelow : x_code mX7_drawBelow ∈ x_WS := x_i5 47 (by decide +kernel) rfl
theorem kcX11_upright : x_code mX11_upright ∈ x_WS := x_i5 53 (by decide +kernel) rfl
theorem kcX3_withoutWrongs : x_code mX3_withoutWrongs ∈ x_WS := x_i5 56 (by decide +kernel) rfl
theorem kcX3_worst : x_code mX3_worst ∈ x_WS := x_i5 59 (by decide +kernel) rfl
theorem kcX3_mostKind : x_code mX3_mostKind ∈ x_WS := x_i5 62 (by decide +kernel) rfl
theorem kcX2_heard : x_code mX2_heard ∈ x_WS := x_i5 67 (by decide +kernel) rfl
theorem kcX2_within : x_code mX2_within ∈ x_WS := x_i5 71 (by decide +kernel) rfl
theorem kcX2_idleMinds : x_code mX2_idleMinds ∈ x_WS := x_i5 75 (by decide +kernel) rfl
theorem kcX3_tree : x_code mX3_tree ∈ x_WS := x_i5 80 (by decide +kernel) rfl
theorem kcX3_nearestApart : x_code mX3_nearestApart ∈ x_WS := x_i5 84 (by decide +kernel) rfl
theorem kcX3_between : x_code mX3_between ∈ x_WS := x_i5 87 (by decide +kernel) rfl
theorem kcX3_nearestTwo : x_code mX3_nearestTwo ∈ x_WS := x_i5 94 (by decide +kernel) rfl
theorem kcX3_betweenNearest : x_code mX3_betweenNearest ∈ x_WS := x_i5 97 (by decide +kernel) rfl
theorem kcX2_broadest : x_code mX2_broadest ∈ x_WS := x_i5 102 (by decide +kernel) rfl
theorem kcX2_offendersBy : x_code mX2_offendersBy ∈ x_WS := x_i5 106 (by decide +kernel) rfl
theorem kcX11_share : x_code mX11_share ∈ x_WS := x_i5 112 (by decide +kernel) rfl
theorem kcX11_walk : x_code mX11_walk ∈ x_WS := x_i5 119 (by decide +kernel) rfl
theorem kcX0_refuge : x_code mX0_refuge ∈ x_WS := x_i5 122 (by decide +kernel) rfl
theorem kcX11_forget : x_code mX11_forget ∈ x_WS := x_i5 127 (by decide +kernel) rfl
theorem kcX2_offendedMinds : x_code mX2_offendedMinds ∈ x_WS := x_i5 131 (by decide +kernel) rfl
theorem kcX11_round : x_code mX11_round ∈ x_WS := x_i5 136 (by decide +kernel) rfl
theorem kcX11_centre : x_code mX11_centre ∈ x_WS := x_i5 140 (by decide +kernel) rfl
theorem kcX3_middle : x_code mX3_middle ∈ x_WS := x_i5 143 (by decide +kernel) rfl
theorem kcX3_farToAll : x_code mX3_farToAll ∈ x_WS := x_i5 146 (by decide +kernel) rfl
theorem kcX0_worstPlace : x_code mX0_worstPlace ∈ x_WS := x_i5 151 (by decide +kernel) rfl
theorem kcX0_offendersAt : x_code mX0_offendersAt ∈ x_WS := x_i5 155 (by decide +kernel) rfl
theorem kcX3_twins : x_code mX3_twins ∈ x_WS := x_i5 158 (by decide +kernel) rfl
theorem kcX3_matches : x_code mX3_matches ∈ x_WS := x_i5 161 (by decide +kernel) rfl
theorem kcX0_grace : x_code mX0_grace ∈ x_WS := x_i5 164 (by decide +kernel) rfl
theorem kcX0_deafness : x_code mX0_deafness ∈ x_WS := x_i5 168 (by decide +kernel) rfl
theorem kcX11_ring : x_code mX11_ring ∈ x_WS := x_i5 172 (by decide +kernel) rfl
theorem kcX11_ladder : x_code mX11_ladder ∈ x_WS := x_i5 177 (by decide +kernel) rfl
theorem kcX3_climb : x_code mX3_climb ∈ x_WS := x_i5 181 (by decide +kernel) rfl
theorem kcX3_compare : x_code mX3_compare ∈ x_WS := x_i5 185 (by decide +kernel) rfl
theorem kcX3_hasAbove : x_code mX3_hasAbove ∈ x_WS := x_i5 189 (by decide +kernel) rfl
theorem kcX3_firstOfHeight : x_code mX3_firstOfHeight ∈ x_WS := x_i5 193 (by decide +kernel) rfl
theorem kcX3_rungAt : x_code mX3_rungAt ∈ x_WS := x_i5 197 (by decide +kernel) rfl
theorem kcX11_next : x_code mX11_next ∈ x_WS := x_i5 201 (by decide +kernel) rfl
theorem kcX2_playingAfter : x_code mX2_playingAfter ∈ x_WS := x_i5 205 (by decide +kernel) rfl
theorem kcX11_purse : x_code mX11_purse ∈ x_WS := x_i5 210 (by decide +kernel) rfl
theorem kcX5_broadest : x_code mX5_broadest ∈ x_WS := x_i5 213 (by decide +kernel) rfl
theorem kcX11_calm : x_code mX11_calm ∈ x_WS := x_i5 219 (by decide +kernel) rfl
theorem kcX8_power : x_code mX8_power ∈ x_WS := x_i5 224 (by decide +kernel) rfl
theorem kcX11_plays : x_code mX11_plays ∈ x_WS := x_i5 228 (by decide +kernel) rfl
theorem kcX2_playingUpTo : x_code mX2_playingUpTo ∈ x_WS := x_i5 232 (by decide +kernel) rfl
theorem kcX11_guess : x_code mX11_guess ∈ x_WS := x_i5 236 (by decide +kernel) rfl
theorem kcX8_choose : x_code mX8_choose ∈ x_WS := x_i5 239 (by decide +kernel) rfl
theorem kcX11_after : x_code mX11_after ∈ x_WS := x_i6 3 (by decide +kernel) rfl
theorem kcX7_sumUp : x_code mX7_sumUp ∈ x_WS := x_i6 7 (by decide +kernel) rfl
theorem kcX11_odds : x_code mX11_odds ∈ x_WS := x_i6 11 (by decide +kernel) rfl
theorem kcX11_small : x_code mX11_small ∈ x_WS := x_i6 16 (by decide +kernel) rfl
theorem kcX4_smallest : x_code mX4_smallest ∈ x_WS := x_i6 19 (by decide +kernel) rfl
theorem kcX4_largest : x_code mX4_largest ∈ x_WS := x_i6 24 (by decide +kernel) rfl
theorem kcX4_fewestLies : x_code mX4_fewestLies ∈ x_WS := x_i6 28 (by decide +kernel) rfl
theorem kcX4_needless : x_code mX4_needless ∈ x_WS := x_i6 32 (by decide +kernel) rfl
theorem kcX4_liesBits : x_code mX4_liesBits ∈ x_WS := x_i6 36 (by decide +kernel) rfl
theorem kcX11_count : x_code mX11_count ∈ x_WS := x_i6 40 (by decide +kernel) rfl
theorem kcX11_image : x_code mX11_image ∈ x_WS := x_i6 44 (by decide +kernel) rfl
theorem kcX9_copyFrom : x_code mX9_copyFrom ∈ x_WS := x_i6 48 (by decide +kernel) rfl
theorem kcX11_again : x_code mX11_again ∈ x_WS := x_i6 53 (by decide +kernel) rfl
theorem kcX12_init : x_code mX12_init ∈ x_WS := x_i6 58 (by decide +kernel) rfl
theorem kcX12_feed : x_code mX12_feed ∈ x_WS := x_i6 226 (by decide +kernel) rfl
theorem kcX12_four : x_code mX12_four ∈ x_WS := x_i6 230 (by decide +kernel) rfl
theorem kcX12_end : x_code mX12_end ∈ x_WS := x_i6 234 (by decide +kernel) rfl
theorem kcX12_in : x_code mX12_in ∈ x_WS := x_i6 237 (by decide +kernel) rfl
theorem kcX12_text : x_code mX12_text ∈ x_WS := x_i7 1 (by decide +kernel) rfl
theorem kcX12_is : x_code mX12_is ∈ x_WS := x_i7 5 (by decide +kernel) rfl
theorem kcX12_readText : x_code mX12_readText ∈ x_WS := x_i7 9 (by decide +kernel) rfl
theorem kcX12_token : x_code mX12_token ∈ x_WS := x_i7 13 (by decide +kernel) rfl
theorem kcX12_see : x_code mX12_see ∈ x_WS := x_i7 17 (by decide +kernel) rfl
theorem kcX12_allLines : x_code mX12_allLines ∈ x_WS := x_i7 21 (by decide +kernel) rfl
theorem kcX12_fairLine : x_code mX12_fairLine ∈ x_WS := x_i7 25 (by decide +kernel) rfl
theorem kcX12_standLine : x_code mX12_standLine ∈ x_WS := x_i7 30 (by decide +kernel) rfl
theorem kcX12_take : x_code mX12_take ∈ x_WS := x_i7 34 (by decide +kernel) rfl
theorem kcX12_fails : x_code mX12_fails ∈ x_WS := x_i7 38 (by decide +kernel) rfl
theorem kcX12_addsFault : x_code mX12_addsFault ∈ x_WS := x_i7 42 (by decide +kernel) rfl
theorem kcX12_goerLine : x_code mX12_goerLine ∈ x_WS := x_i7 47 (by decide +kernel) rfl
theorem kcX12_full : x_code mX12_full ∈ x_WS := x_i7 51 (by decide +kernel) rfl
theorem kcX12_keep : x_code mX12_keep ∈ x_WS := x_i7 55 (by decide +kernel) rfl
theorem kcX12_slantLine : x_code mX12_slantLine ∈ x_WS := x_i7 60 (by decide +kernel) rfl
theorem kcX12_mindsLine : x_code mX12_mindsLine ∈ x_WS := x_i7 65 (by decide +kernel) rfl
theorem kcX12_wrongLine : x_code mX12_wrongLine ∈ x_WS := x_i7 70 (by decide +kernel) rfl
theorem kcX12_greater : x_code mX12_greater ∈ x_WS := x_i7 73 (by decide +kernel) rfl
theorem kcX12_confessLine : x_code mX12_confessLine ∈ x_WS := x_i7 78 (by decide +kernel) rfl
theorem kcX12_townLine : x_code mX12_townLine ∈ x_WS := x_i7 83 (by decide +kernel) rfl
theorem kcX12_dayLine : x_code mX12_dayLine ∈ x_WS := x_i7 87 (by decide +kernel) rfl
theorem kcX12_deedBy : x_code mX12_deedBy ∈ x_WS := x_i7 91 (by decide +kernel) rfl
theorem kcX12_lesser : x_code mX12_lesser ∈ x_WS := x_i7 100 (by decide +kernel) rfl
theorem kcX12_logLine : x_code mX12_logLine ∈ x_WS := x_i7 104 (by decide +kernel) rfl
theorem kcX12_store : x_code mX12_store ∈ x_WS := x_i7 111 (by decide +kernel) rfl
theorem kcX12_fault : x_code mX12_fault ∈ x_WS := x_i7 115 (by decide +kernel) rfl
theorem kcX12_fair : x_code mX12_fair ∈ x_WS := x_i7 119 (by decide +kernel) rfl
theorem kcX12_hand : x_code mX12_hand ∈ x_WS := x_i7 123 (by decide +kernel) rfl
theorem kcX12_of : x_code mX12_of ∈ x_WS := x_i7 127 (by decide +kernel) rfl
theorem kcX12_isGoer : x_code mX12_isGoer ∈ x_WS := x_i7 131 (by decide +kernel) rfl
theorem kcX12_row : x_code mX12_row ∈ x_WS := x_i7 135 (by decide +kernel) rfl
theorem kcX12_deed : x_code mX12_deed ∈ x_WS := x_i7 139 (by decide +kernel) rfl
theorem kcX12_hasDay : x_code mX12_hasDay ∈ x_WS := x_i7 143 (by decide +kernel) rfl
theorem kcX12_deeds : x_code mX12_deeds ∈ x_WS := x_i7 147 (by decide +kernel) rfl
theorem kcX12_deedOf : x_code mX12_deedOf ∈ x_WS := x_i7 151 (by decide +kernel) rfl
theorem kcX12_till : x_code mX12_till ∈ x_WS := x_i7 155 (by decide +kernel) rfl
theorem kcX12_layAll : x_code mX12_layAll ∈ x_WS := x_i7 159 (by decide +kernel) rfl
theorem kcX12_play : x_code mX12_play ∈ x_WS := x_i7 163 (by decide +kernel) rfl
theorem kcX12_doesDeed : x_code mX12_doesDeed ∈ x_WS := x_i7 167 (by decide +kernel) rfl
theorem kcX12_does : x_code mX12_does ∈ x_WS := x_i7 171 (by decide +kernel) rfl
theorem kcX12_sounds : x_code mX12_sounds ∈ x_WS := x_i7 175 (by decide +kernel) rfl
theorem kcX12_offenders : x_code mX12_offenders ∈ x_WS := x_i7 179 (by decide +kernel) rfl
theorem kcX12_offends : x_code mX12_offends ∈ x_WS := x_i7 183 (by decide +kernel) rfl
theorem kcX12_fromStand : x_code mX12_fromStand ∈ x_WS := x_i7 187 (by decide +kernel) rfl
theorem kcX12_way : x_code mX12_way ∈ x_WS := x_i7 190 (by decide +kernel) rfl
theorem kcX12_has : x_code mX12_has ∈ x_WS := x_i7 193 (by decide +kernel) rfl
theorem kcX12_isSlanted : x_code mX12_isSlanted ∈ x_WS := x_i7 197 (by decide +kernel) rfl
theorem kcX12_fitted : x_code mX12_fitted ∈ x_WS := x_i7 201 (by decide +kernel) rfl
theorem kcX12_changes : x_code mX12_changes ∈ x_WS := x_i7 205 (by decide +kernel) rfl
theorem kcX12_state : x_code mX12_state ∈ x_WS := x_i7 209 (by decide +kernel) rfl
theorem kcX12_ofState : x_code mX12_ofState ∈ x_WS := x_i7 213 (by decide +kernel) rfl
theorem kcX12_mend : x_code mX12_mend ∈ x_WS := x_i7 217 (by decide +kernel) rfl
theorem kcX12_quiet : x_code mX12_quiet ∈ x_WS := x_i7 221 (by decide +kernel) rfl
theorem kcX12_asking : x_code mX12_asking ∈ x_WS := x_i7 226 (by decide +kernel) rfl
theorem kcX12_questions : x_code mX12_questions ∈ x_WS := x_i7 230 (by decide +kernel) rfl
theorem kcX12_wrongsOf : x_code mX12_wrongsOf ∈ x_WS := x_i7 234 (by decide +kernel) rfl
theorem kcX12_takeLeast : x_code mX12_takeLeast ∈ x_WS := x_i7 238 (by decide +kernel) rfl
theorem kcX12_allWrongs : x_code mX12_allWrongs ∈ x_WS := x_i8 2 (by decide +kernel) rfl
theorem kcX12_part : x_code mX12_part ∈ x_WS := x_i8 5 (by decide +kernel) rfl
theorem kcX12_common : x_code mX12_common ∈ x_WS := x_i8 8 (by decide +kernel) rfl
theorem kcX12_confess : x_code mX12_confess ∈ x_WS := x_i8 12 (by decide +kernel) rfl
theorem kcX12_mindedKinds : x_code mX12_mindedKinds ∈ x_WS := x_i8 16 (by decide +kernel) rfl
theorem kcX12_pricesOf : x_code mX12_pricesOf ∈ x_WS := x_i8 20 (by decide +kernel) rfl
theorem kcX12_pardons : x_code mX12_pardons ∈ x_WS := x_i8 24 (by decide +kernel) rfl
theorem kcX12_route : x_code mX12_route ∈ x_WS := x_i8 28 (by decide +kernel) rfl
theorem kcX12_layRoute : x_code mX12_layRoute ∈ x_WS := x_i8 32 (by decide +kernel) rfl
theorem kcX12_findRoutes : x_code mX12_findRoutes ∈ x_WS := x_i8 36 (by decide +kernel) rfl
theorem kcX12_scoreBy : x_code mX12_scoreBy ∈ x_WS := x_i8 40 (by decide +kernel) rfl
theorem kcX12_townWay : x_code mX12_townWay ∈ x_WS := x_i8 45 (by decide +kernel) rfl
theorem kcX12_byTurns : x_code mX12_byTurns ∈ x_WS := x_i8 49 (by decide +kernel) rfl
theorem kcX12_nines : x_code mX12_nines ∈ x_WS := x_i8 52 (by decide +kernel) rfl
theorem kcX12_endOf : x_code mX12_endOf ∈ x_WS := x_i8 56 (by decide +kernel) rfl
theorem kcX12_asTold : x_code mX12_asTold ∈ x_WS := x_i8 60 (by decide +kernel) rfl
theorem kcX12_turned : x_code mX12_turned ∈ x_WS := x_i8 64 (by decide +kernel) rfl
theorem kcX12_ones : x_code mX12_ones ∈ x_WS := x_i8 67 (by decide +kernel) rfl
theorem kcX12_fold : x_code mX12_fold ∈ x_WS := x_i8 71 (by decide +kernel) rfl
theorem kcX12_log : x_code mX12_log ∈ x_WS := x_i8 75 (by decide +kernel) rfl
theorem kcX12_hasLog : x_code mX12_hasLog ∈ x_WS := x_i8 79 (by decide +kernel) rfl
theorem kcX12_lies : x_code mX12_lies ∈ x_WS := x_i8 83 (by decide +kernel) rfl
theorem kcX12_facts : x_code mX12_facts ∈ x_WS := x_i8 87 (by decide +kernel) rfl
theorem kcX12_factOf : x_code mX12_factOf ∈ x_WS := x_i8 91 (by decide +kernel) rfl
theorem kcX12_fits : x_code mX12_fits ∈ x_WS := x_i8 95 (by decide +kernel) rfl
theorem kcX12_layLog : x_code mX12_layLog ∈ x_WS := x_i8 99 (by decide +kernel) rfl
theorem kcX12_findHearts : x_code mX12_findHearts ∈ x_WS := x_i8 103 (by decide +kernel) rfl
theorem kcX12_liesOf : x_code mX12_liesOf ∈ x_WS := x_i8 107 (by decide +kernel) rfl
theorem kcX12_halts : x_code mX12_halts ∈ x_WS := x_i8 110 (by decide +kernel) rfl
theorem kcX12_sure : x_code mX12_sure ∈ x_WS := x_i8 114 (by decide +kernel) rfl
theorem kcX12_manyHalt : x_code mX12_manyHalt ∈ x_WS := x_i8 118 (by decide +kernel) rfl
theorem kcX12_askWhat : x_code mX12_askWhat ∈ x_WS := x_i8 122 (by decide +kernel) rfl
theorem kcX12_drawn : x_code mX12_drawn ∈ x_WS := x_i8 126 (by decide +kernel) rfl
theorem kcX12_drawDeed : x_code mX12_drawDeed ∈ x_WS := x_i8 130 (by decide +kernel) rfl
theorem kcX12_draw : x_code mX12_draw ∈ x_WS := x_i8 134 (by decide +kernel) rfl
theorem kcX12_upright : x_code mX12_upright ∈ x_WS := x_i8 139 (by decide +kernel) rfl
theorem kcX12_clean : x_code mX12_clean ∈ x_WS := x_i8 143 (by decide +kernel) rfl
theorem kcX12_worst : x_code mX12_worst ∈ x_WS := x_i8 147 (by decide +kernel) rfl
theorem kcX12_mostKind : x_code mX12_mostKind ∈ x_WS := x_i8 151 (by decide +kernel) rfl
theorem kcX12_heard : x_code mX12_heard ∈ x_WS := x_i8 155 (by decide +kernel) rfl
theorem kcX12_idle : x_code mX12_idle ∈ x_WS := x_i8 159 (by decide +kernel) rfl
theorem kcX12_offendersBut : x_code mX12_offendersBut ∈ x_WS := x_i8 163 (by decide +kernel) rfl
theorem kcX12_tree : x_code mX12_tree ∈ x_WS := x_i8 167 (by decide +kernel) rfl
theorem kcX12_fromJoined : x_code mX12_fromJoined ∈ x_WS := x_i8 171 (by decide +kernel) rfl
theorem kcX12_between : x_code mX12_between ∈ x_WS := x_i8 175 (by decide +kernel) rfl
theorem kcX12_nearest : x_code mX12_nearest ∈ x_WS := x_i8 179 (by decide +kernel) rfl
theorem kcX12_broad : x_code mX12_broad ∈ x_WS := x_i8 183 (by decide +kernel) rfl
theorem kcX12_share : x_code mX12_share ∈ x_WS := x_i8 187 (by decide +kernel) rfl
theorem kcX12_walk : x_code mX12_walk ∈ x_WS := x_i8 191 (by decide +kernel) rfl
theorem kcX12_forget : x_code mX12_forget ∈ x_WS := x_i8 195 (by decide +kernel) rfl
theorem kcX12_round : x_code mX12_round ∈ x_WS := x_i8 199 (by decide +kernel) rfl
theorem kcX12_roundBy : x_code mX12_roundBy ∈ x_WS := x_i8 203 (by decide +kernel) rfl
theorem kcX12_centre : x_code mX12_centre ∈ x_WS := x_i8 207 (by decide +kernel) rfl
theorem kcX12_middle : x_code mX12_middle ∈ x_WS := x_i8 211 (by decide +kernel) rfl
theorem kcX12_spot : x_code mX12_spot ∈ x_WS := x_i8 215 (by decide +kernel) rfl
theorem kcX12_twins : x_code mX12_twins ∈ x_WS := x_i8 219 (by decide +kernel) rfl
theorem kcX12_grace : x_code mX12_grace ∈ x_WS := x_i8 223 (by decide +kernel) rfl
theorem kcX12_deaf : x_code mX12_deaf ∈ x_WS := x_i8 227 (by decide +kernel) rfl
theorem kcX12_ring : x_code mX12_ring ∈ x_WS := x_i8 231 (by decide +kernel) rfl
theorem kcX12_ladder : x_code mX12_ladder ∈ x_WS := x_i8 235 (by decide +kernel) rfl
theorem kcX12_findRungs : x_code mX12_findRungs ∈ x_WS := x_i8 239 (by decide +kernel) rfl
theorem kcX12_isRung : x_code mX12_isRung ∈ x_WS := x_i9 3 (by decide +kernel) rfl
theorem kcX12_next : x_code mX12_next ∈ x_WS := x_i9 7 (by decide +kernel) rfl
theorem kcX12_purse : x_code mX12_purse ∈ x_WS := x_i9 11 (by decide +kernel) rfl
theorem kcX12_calm : x_code mX12_calm ∈ x_WS := x_i9 15 (by decide +kernel) rfl
theorem kcX12_times : x_code mX12_times ∈ x_WS := x_i9 20 (by decide +kernel) rfl
theorem kcX12_partL : x_code mX12_partL ∈ x_WS := x_i9 23 (by decide +kernel) rfl
theorem kcX12_commonL : x_code mX12_commonL ∈ x_WS := x_i9 26 (by decide +kernel) rfl
theorem kcX12_plays : x_code mX12_plays ∈ x_WS := x_i9 30 (by decide +kernel) rfl
theorem kcX12_guess : x_code mX12_guess ∈ x_WS := x_i9 34 (by decide +kernel) rfl
theorem kcX12_choose : x_code mX12_choose ∈ x_WS := x_i9 37 (by decide +kernel) rfl
theorem kcX12_after : x_code mX12_after ∈ x_WS := x_i9 41 (by decide +kernel) rfl
theorem kcX12_odds : x_code mX12_odds ∈ x_WS := x_i9 45 (by decide +kernel) rfl
theorem kcX12_small : x_code mX12_small ∈ x_WS := x_i9 49 (by decide +kernel) rfl
theorem kcX12_sizeOf : x_code mX12_sizeOf ∈ x_WS := x_i9 53 (by decide +kernel) rfl
theorem kcX12_fewestLies : x_code mX12_fewestLies ∈ x_WS := x_i9 57 (by decide +kernel) rfl
theorem kcX12_needless : x_code mX12_needless ∈ x_WS := x_i9 61 (by decide +kernel) rfl
theorem kcX12_isNeedless : x_code mX12_isNeedless ∈ x_WS := x_i9 65 (by decide +kernel) rfl
theorem kcX12_count : x_code mX12_count ∈ x_WS := x_i9 69 (by decide +kernel) rfl
theorem kcX12_image : x_code mX12_image ∈ x_WS := x_i9 73 (by decide +kernel) rfl
theorem kcX12_copyAll : x_code mX12_copyAll ∈ x_WS := x_i9 77 (by decide +kernel) rfl
theorem kcX12_copyRow : x_code mX12_copyRow ∈ x_WS := x_i9 80 (by decide +kernel) rfl
theorem kcX12_again : x_code mX12_again ∈ x_WS := x_i9 84 (by decide +kernel) rfl
theorem kiX11 : Cond.initialized RX11 ∈ x_WS := (x_i1 1 (by decide +kernel) rfl)
theorem kiX0 : Cond.initialized RX0 ∈ x_WS := (x_i1 10 (by decide +kernel) rfl)
theorem kiX1 : Cond.initialized RX1 ∈ x_WS := (x_i1 4 (by decide +kernel) rfl)
theorem kiX2 : Cond.initialized RX2 ∈ x_WS := (x_i1 3 (by decide +kernel) rfl)
theorem kiX3 : Cond.initialized RX3 ∈ x_WS := (x_i1 9 (by decide +kernel) rfl)
theorem kiX4 : Cond.initialized RX4 ∈ x_WS := (x_i1 5 (by decide +kernel) rfl)
theorem kiX5 : Cond.initialized RX5 ∈ x_WS := (x_i1 20 (by decide +kernel) rfl)
theorem kiX6 : Cond.initialized RX6 ∈ x_WS := (x_i1 6 (by decide +kernel) rfl)
theorem kiX7 : Cond.initialized RX7 ∈ x_WS := (x_i1 7 (by decide +kernel) rfl)
theorem kiX8 : Cond.initialized RX8 ∈ x_WS := (x_i1 12 (by decide +kernel) rfl)
theorem kiX9 : Cond.initialized RX9 ∈ x_WS := (x_i1 2 (by decide +kernel) rfl)
theorem kiX10 : Cond.initialized RX10 ∈ x_WS := (x_i1 8 (by decide +kernel) rfl)
theorem kiL : Cond.initialized RL ∈ x_WS := (x_i1 0 (by decide +kernel) rfl)
theorem kiX12 : Cond.initialized RX12 ∈ x_WS := (x_i1 11 (by decide +kernel) rfl)
theorem kiJ6 : Cond.initialized RJ6 ∈ x_WS := (x_i1 21 (by decide +kernel) rfl)
theorem kiJ13 : Cond.initialized RJ13 ∈ x_WS := (x_i1 22 (by decide +kernel) rfl)
theorem kiJ9 : Cond.initialized RJ9 ∈ x_WS := (x_i1 19 (by decide +kernel) rfl)
theorem kiJ0 : Cond.initialized RJ0 ∈ x_WS := (x_i1 15 (by decide +kernel) rfl)
theorem kiJ1 : Cond.initialized RJ1 ∈ x_WS := (x_i1 16 (by decide +kernel) rfl)
theorem kiJ2 : Cond.initialized RJ2 ∈ x_WS := (x_i1 18 (by decide +kernel) rfl)
theorem kiJ10 : Cond.initialized RJ10 ∈ x_WS := (x_i1 13 (by decide +kernel) rfl)
theorem kiJ7 : Cond.initialized RJ7 ∈ x_WS := (x_i1 14 (by decide +kernel) rfl)
theorem kiJ3 : Cond.initialized RJ3 ∈ x_WS := (x_i1 17 (by decide +kernel) rfl)
theorem kfX2_27 : x_fl RX2 27 2 0 := ⟨(RX2, TX2, 12), rfl, by decide, x_i1 48 (by decide +kernel) rfl⟩
theorem kpX2_27 : x_fp RX2 27 2 0 .int false := ⟨(RX2, TX2, 12), rfl, by decide, x_i1 48 (by decide +kernel) rfl, rfl, (fun q => by cases q), by decide +kernel⟩
theorem kfX10_69 : x_fl RX10 69 2 0 := ⟨(RX2, TX2, 12), rfl, by decide, x_i1 49 (by decide +kernel) rfl⟩
theorem kpX10_69 : x_fp RX10 69 2 0 .int false := ⟨(RX2, TX2, 12), rfl, by decide, x_i1 49 (by decide +kernel) rfl, rfl, (fun q => by cases q), by decide +kernel⟩
theorem kfX6_153 : x_fl RX6 153 2 0 := ⟨(RX2, TX2, 12), rfl, by decide, x_i1 50 (by decide +kernel) rfl⟩
theorem kpX6_153 : x_fp RX6 153 2 0 .int false := ⟨(RX2, TX2, 12), rfl, by decide, x_i1 50 (by decide +kernel) rfl, rfl, (fun q => by cases q), by decide +kernel⟩
theorem kfX2_31 : x_fl RX2 31 2 1 := ⟨(RX2, TX2, 12), rfl, by decide, x_i1 51 (by decide +kernel) rfl⟩
theorem kpX2_31 : x_fp RX2 31 2 1 .int false := ⟨(RX2, TX2, 12), rfl, by decide, x_i1 51 (by decide +kernel) rfl, rfl, (fun q => by cases q), by decide +kernel⟩
theorem kfX10_72 : x_fl RX10 72 2 1 := ⟨(RX2, TX2, 12), rfl, by decide, x_i1 52 (by decide +kernel) rfl⟩
theorem kpX10_72 : x_fp RX10 72 2 1 .int false := ⟨(RX2, TX2, 12), rfl, by decide, x_i1 52 (by decide +kernel) rfl, rfl, (fun q => by cases q), by decide +kernel⟩
theorem kfX6_156 : x_fl RX6 156 2 1 := ⟨(RX2, TX2, 12), rfl, by decide, x_i1 53 (by decide +kernel) rfl⟩
theorem kpX6_156 : x_fp RX6 156 2 1 .int false := ⟨(RX2, TX2, 12), rfl, by decide, x_i1 53 (by decide +kernel) rfl, rfl, (fun q => by cases q), by decide +kernel⟩
theorem kfX2_34 : x_fl RX2 34 2 2 := ⟨(RX2, TX2, 12), rfl, by decide, x_i1 54 (by decide +kernel) rfl⟩
theorem kpX2_34 : x_fp RX2 34 2 2 .int false := ⟨(RX2, TX2, 12), rfl, by decide, x_i1 54 (by decide +kernel) rfl, rfl, (fun q => by cases q), by decide +kernel⟩
theorem kfX7_134 : x_fl RX7 134 2 2 := ⟨(RX2, TX2, 12), rfl, by decide, x_i1 55 (by decide +kernel) rfl⟩
theorem kpX7_134 : x_fp RX7 134 2 2 .int false := ⟨(RX2, TX2, 12), rfl, by decide, x_i1 55 (by decide +kernel) rfl, rfl, (fun q => by cases q), by decide +kernel⟩
theorem kfX6_159 : x_fl RX6 159 2 2 := ⟨(RX2, TX2, 12), rfl, by decide, x_i1 56 (by decide +kernel) rfl⟩
theorem kpX6_159 : x_fp RX6 159 2 2 .int false := ⟨(RX2, TX2, 12), rfl, by decide, x_i1 56 (by decide +kernel) rfl, rfl, (fun q => by cases q), by decide +kernel⟩
theorem kfX2_37 : x_fl RX2 37 2 3 := ⟨(RX2, TX2, 12), rfl, by decide, x_i1 57 (by decide +kernel) rfl⟩
theorem kpX2_37 : x_fp RX2 37 2 3 .int false := ⟨(RX2, TX2, 12), rfl, by decide, x_i1 57 (by decide +kernel) rfl, rfl, (fun q => by cases q), by decide +kernel⟩
theorem kfX3_27 : x_fl RX3 27 2 3 := ⟨(RX2, TX2, 12), rfl, by decide, x_i1 58 (by decide +kernel) rfl⟩
theorem kpX3_27 : x_fp RX3 27 2 3 .int false := ⟨(RX2, TX2, 12), rfl, by decide, x_i1 58 (by decide +kernel) rfl, rfl, (fun q => by cases q), by decide +kernel⟩
theorem kfX5_25 : x_fl RX5 25 2 3 := ⟨(RX2, TX2, 12), rfl, by decide, x_i1 59 (by decide +kernel) rfl⟩
theorem kpX5_25 : x_fp RX5 25 2 3 .int false := ⟨(RX2, TX2, 12), rfl, by decide, x_i1 59 (by decide +kernel) rfl, rfl, (fun q => by cases q), by decide +kernel⟩
theorem kfX6_127 : x_fl RX6 127 2 3 := ⟨(RX2, TX2, 12), rfl, by decide, x_i1 60 (by decide +kernel) rfl⟩
theorem kpX6_127 : x_fp RX6 127 2 3 .int false := ⟨(RX2, TX2, 12), rfl, by decide, x_i1 60 (by decide +kernel) rfl, rfl, (fun q => by cases q), by decide +kernel⟩
theorem kfX11_225 : x_fl RX11 225 2 3 := ⟨(RX2, TX2, 12), rfl, by decide, x_i1 61 (by decide +kernel) rfl⟩
theorem kpX11_225 : x_fp RX11 225 2 3 .int false := ⟨(RX2, TX2, 12), rfl, by decide, x_i1 61 (by decide +kernel) rfl, rfl, (fun q => by cases q), by decide +kernel⟩
theorem kfX0_15 : x_fl RX0 15 2 4 := ⟨(RX2, TX2, 12), rfl, by decide, x_i1 62 (by decide +kernel) rfl⟩
theorem kpX0_15 : x_fp RX0 15 2 4 .int false := ⟨(RX2, TX2, 12), rfl, by decide, x_i1 62 (by decide +kernel) rfl, rfl, (fun q => by cases q), by decide +kernel⟩
theorem kfX2_40 : x_fl RX2 40 2 4 := ⟨(RX2, TX2, 12), rfl, by decide, x_i1 63 (by decide +kernel) rfl⟩
theorem kpX2_40 : x_fp RX2 40 2 4 .int false := ⟨(RX2, TX2, 12), rfl, by decide, x_i1 63 (by decide +kernel) rfl, rfl, (fun q => by cases q), by decide +kernel⟩
theorem kfX6_80 : x_fl RX6 80 2 4 := ⟨(RX2, TX2, 12), rfl, by decide, x_i1 64 (by decide +kernel) rfl⟩
theorem kpX6_80 : x_fp RX6 80 2 4 .int false := ⟨(RX2, TX2, 12), rfl, by decide, x_i1 64 (by decide +kernel) rfl, rfl, (fun q => by cases q), by decide +kernel⟩
theorem kfX3_55 : x_fl RX3 55 2 4 := ⟨(RX2, TX2, 12), rfl, by decide, x_i1 65 (by decide +kernel) rfl⟩
theorem kpX3_55 : x_fp RX3 55 2 4 .int false := ⟨(RX2, TX2, 12), rfl, by decide, x_i1 65 (by decide +kernel) rfl, rfl, (fun q => by cases q), by decide +kernel⟩
theorem kfX7_97 : x_fl RX7 97 2 4 := ⟨(RX2, TX2, 12), rfl, by decide, x_i1 66 (by decide +kernel) rfl⟩
theorem kpX7_97 : x_fp RX7 97 2 4 .int false := ⟨(RX2, TX2, 12), rfl, by decide, x_i1 66 (by decide +kernel) rfl, rfl, (fun q => by cases q), by decide +kernel⟩
theorem kfX11_131 : x_fl RX11 131 2 4 := ⟨(RX2, TX2, 12), rfl, by decide, x_i1 67 (by decide +kernel) rfl⟩
theorem kpX11_131 : x_fp RX11 131 2 4 .int false := ⟨(RX2, TX2, 12), rfl, by decide, x_i1 67 (by decide +kernel) rfl, rfl, (fun q => by cases q), by decide +kernel⟩
theorem kfX5_9 : x_fl RX5 9 2 5 := ⟨(RX2, TX2, 12), rfl, by decide, x_i1 68 (by decide +kernel) rfl⟩
theorem kpX5_9 : x_fp RX5 9 2 5 .int false := ⟨(RX2, TX2, 12), rfl, by decide, x_i1 68 (by decide +kernel) rfl, rfl, (fun q => by cases q), by decide +kernel⟩
theorem kfX2_43 : x_fl RX2 43 2 5 := ⟨(RX2, TX2, 12), rfl, by decide, x_i1 69 (by decide +kernel) rfl⟩
theorem kpX2_43 : x_fp RX2 43 2 5 .int false := ⟨(RX2, TX2, 12), rfl, by decide, x_i1 69 (by decide +kernel) rfl, rfl, (fun q => by cases q), by decide +kernel⟩
theorem kfX6_130 : x_fl RX6 130 2 5 := ⟨(RX2, TX2, 12), rfl, by decide, x_i1 70 (by decide +kernel) rfl⟩
theorem kpX6_130 : x_fp RX6 130 2 5 .int false := ⟨(RX2, TX2, 12), rfl, by decide, x_i1 70 (by decide +kernel) rfl, rfl, (fun q => by cases q), by decide +kernel⟩
theorem kfX10_34 : x_fl RX10 34 2 6 := ⟨(RX2, TX2, 12), rfl, by decide, x_i1 71 (by decide +kernel) rfl⟩
theorem kpX10_34 : x_fp RX10 34 2 6 .int false := ⟨(RX2, TX2, 12), rfl, by decide, x_i1 71 (by decide +kernel) rfl, rfl, (fun q => by cases q), by decide +kernel⟩
theorem kfX2_46 : x_fl RX2 46 2 6 := ⟨(RX2, TX2, 12), rfl, by decide, x_i1 72 (by decide +kernel) rfl⟩
theorem kpX2_46 : x_fp RX2 46 2 6 .int false := ⟨(RX2, TX2, 12), rfl, by decide, x_i1 72 (by decide +kernel) rfl, rfl, (fun q => by cases q), by decide +kernel⟩
theorem kfX6_133 : x_fl RX6 133 2 6 := ⟨(RX2, TX2, 12), rfl, by decide, x_i1 73 (by decide +kernel) rfl⟩
theorem kpX6_133 : x_fp RX6 133 2 6 .int false := ⟨(RX2, TX2, 12), rfl, by decide, x_i1 73 (by decide +kernel) rfl, rfl, (fun q => by cases q), by decide +kernel⟩
theorem kfX2_9 : x_fl RX2 9 2 7 := ⟨(RX2, TX2, 12), rfl, by decide, x_i1 74 (by decide +kernel) rfl⟩
theorem kpX2_9 : x_fp RX2 9 2 7 (.array .int) true := ⟨(RX2, TX2, 12), rfl, by decide, x_i1 74 (by decide +kernel) rfl, rfl, fun _ => rfl, by decide +kernel⟩
theorem kfX6_169 : x_fl RX6 169 2 7 := ⟨(RX2, TX2, 12), rfl, by decide, x_i1 75 (by decide +kernel) rfl⟩
theorem kfX2_15 : x_fl RX2 15 2 8 := ⟨(RX2, TX2, 12), rfl, by decide, x_i1 76 (by decide +kernel) rfl⟩
theorem kpX2_15 : x_fp RX2 15 2 8 (.array .int) true := ⟨(RX2, TX2, 12), rfl, by decide, x_i1 76 (by decide +kernel) rfl, rfl, fun _ => rfl, by decide +kernel⟩
theorem kfX2_18 : x_fl RX2 18 2 9 := ⟨(RX2, TX2, 12), rfl, by decide, x_i1 77 (by decide +kernel) rfl⟩
theorem kpX2_18 : x_fp RX2 18 2 9 (.array .int) true := ⟨(RX2, TX2, 12), rfl, by decide, x_i1 77 (by decide +kernel) rfl, rfl, fun _ => rfl, by decide +kernel⟩
theorem kfX2_21 : x_fl RX2 21 2 10 := ⟨(RX2, TX2, 12), rfl, by decide, x_i1 78 (by decide +kernel) rfl⟩
theorem kpX2_21 : x_fp RX2 21 2 10 (.array .int) true := ⟨(RX2, TX2, 12), rfl, by decide, x_i1 78 (by decide +kernel) rfl, rfl, fun _ => rfl, by decide +kernel⟩
theorem kfX5_15 : x_fl RX5 15 2 10 := ⟨(RX2, TX2, 12), rfl, by decide, x_i1 79 (by decide +kernel) rfl⟩
theorem kfX6_175 : x_fl RX6 175 2 10 := ⟨(RX2, TX2, 12), rfl, by decide, x_i1 80 (by decide +kernel) rfl⟩
theorem kfX2_24 : x_fl RX2 24 2 11 := ⟨(RX2, TX2, 12), rfl, by decide, x_i1 81 (by decide +kernel) rfl⟩
theorem kpX2_24 : x_fp RX2 24 2 11 (.array .int) true := ⟨(RX2, TX2, 12), rfl, by decide, x_i1 81 (by decide +kernel) rfl, rfl, fun _ => rfl, by decide +kernel⟩
theorem kfX10_62 : x_fl RX10 62 2 11 := ⟨(RX2, TX2, 12), rfl, by decide, x_i1 82 (by decide +kernel) rfl⟩
theorem kfX6_178 : x_fl RX6 178 2 11 := ⟨(RX2, TX2, 12), rfl, by decide, x_i1 83 (by decide +kernel) rfl⟩
theorem kfX1_15 : x_fl RX1 15 1 0 := ⟨(RX1, TX1, 2), rfl, by decide, x_i1 116 (by decide +kernel) rfl⟩
theorem kpX1_15 : x_fp RX1 15 1 0 .int false := ⟨(RX1, TX1, 2), rfl, by decide, x_i1 116 (by decide +kernel) rfl, rfl, (fun q => by cases q), by decide +kernel⟩
theorem kfX6_57 : x_fl RX6 57 1 0 := ⟨(RX1, TX1, 2), rfl, by decide, x_i1 117 (by decide +kernel) rfl⟩
theorem kpX6_57 : x_fp RX6 57 1 0 .int false := ⟨(RX1, TX1, 2), rfl, by decide, x_i1 117 (by decide +kernel) rfl, rfl, (fun q => by cases q), by decide +kernel⟩
theorem kfX11_108 : x_fl RX11 108 1 0 := ⟨(RX1, TX1, 2), rfl, by decide, x_i1 118 (by decide +kernel) rfl⟩
theorem kpX11_108 : x_fp RX11 108 1 0 .int false := ⟨(RX1, TX1, 2), rfl, by decide, x_i1 118 (by decide +kernel) rfl, rfl, (fun q => by cases q), by decide +kernel⟩
theorem kfX1_9 : x_fl RX1 9 1 1 := ⟨(RX1, TX1, 2), rfl, by decide, x_i1 119 (by decide +kernel) rfl⟩
theorem kpX1_9 : x_fp RX1 9 1 1 (.array .int) true := ⟨(RX1, TX1, 2), rfl, by decide, x_i1 119 (by decide +kernel) rfl, rfl, fun _ => rfl, by decide +kernel⟩
theorem kfX4_18 : x_fl RX4 18 4 0 := ⟨(RX4, TX4, 4), rfl, by decide, x_i1 130 (by decide +kernel) rfl⟩
theorem kpX4_18 : x_fp RX4 18 4 0 .int false := ⟨(RX4, TX4, 4), rfl, by decide, x_i1 130 (by decide +kernel) rfl, rfl, (fun q => by cases q), by decide +kernel⟩
theorem kfX6_148 : x_fl RX6 148 4 0 := ⟨(RX4, TX4, 4), rfl, by decide, x_i1 131 (by decide +kernel) rfl⟩
theorem kpX6_148 : x_fp RX6 148 4 0 .int false := ⟨(RX4, TX4, 4), rfl, by decide, x_i1 131 (by decide +kernel) rfl, rfl, (fun q => by cases q), by decide +kernel⟩
theorem kfX4_22 : x_fl RX4 22 4 1 := ⟨(RX4, TX4, 4), rfl, by decide, x_i1 132 (by decide +kernel) rfl⟩
theorem kpX4_22 : x_fp RX4 22 4 1 .int false := ⟨(RX4, TX4, 4), rfl, by decide, x_i1 132 (by decide +kernel) rfl, rfl, (fun q => by cases q), by decide +kernel⟩
theorem kfX6_136 : x_fl RX6 136 4 1 := ⟨(RX4, TX4, 4), rfl, by decide, x_i1 133 (by decide +kernel) rfl⟩
theorem kpX6_136 : x_fp RX6 136 4 1 .int false := ⟨(RX4, TX4, 4), rfl, by decide, x_i1 133 (by decide +kernel) rfl, rfl, (fun q => by cases q), by decide +kernel⟩
theorem kfX4_9 : x_fl RX4 9 4 2 := ⟨(RX4, TX4, 4), rfl, by decide, x_i1 134 (by decide +kernel) rfl⟩
theorem kpX4_9 : x_fp RX4 9 4 2 (.array .int) true := ⟨(RX4, TX4, 4), rfl, by decide, x_i1 134 (by decide +kernel) rfl, rfl, fun _ => rfl, by decide +kernel⟩
theorem kfX4_15 : x_fl RX4 15 4 3 := ⟨(RX4, TX4, 4), rfl, by decide, x_i1 135 (by decide +kernel) rfl⟩
theorem kpX4_15 : x_fp RX4 15 4 3 (.array .int) true := ⟨(RX4, TX4, 4), rfl, by decide, x_i1 135 (by decide +kernel) rfl, rfl, fun _ => rfl, by decide +kernel⟩
theorem kfX9_9 : x_fl RX9 9 7 0 := ⟨(RX9, TX9, 8), rfl, by decide, x_i1 145 (by decide +kernel) rfl⟩
theorem kpX9_9 : x_fp RX9 9 7 0 (.array .byte) true := ⟨(RX9, TX9, 8), rfl, by decide, x_i1 145 (by decide +kernel) rfl, rfl, fun _ => rfl, by decide +kernel⟩
theorem kfX6_40 : x_fl RX6 40 7 0 := ⟨(RX9, TX9, 8), rfl, by decide, x_i1 146 (by decide +kernel) rfl⟩
theorem kfX11_59 : x_fl RX11 59 7 1 := ⟨(RX9, TX9, 8), rfl, by decide, x_i1 147 (by decide +kernel) rfl⟩
theorem kpX11_59 : x_fp RX11 59 7 1 .int false := ⟨(RX9, TX9, 8), rfl, by decide, x_i1 147 (by decide +kernel) rfl, rfl, (fun q => by cases q), by decide +kernel⟩
theorem kfX6_49 : x_fl RX6 49 7 1 := ⟨(RX9, TX9, 8), rfl, by decide, x_i1 148 (by decide +kernel) rfl⟩
theorem kpX6_49 : x_fp RX6 49 7 1 .int false := ⟨(RX9, TX9, 8), rfl, by decide, x_i1 148 (by decide +kernel) rfl, rfl, (fun q => by cases q), by decide +kernel⟩
theorem kfX9_50 : x_fl RX9 50 7 1 := ⟨(RX9, TX9, 8), rfl, by decide, x_i1 149 (by decide +kernel) rfl⟩
theorem kpX9_50 : x_fp RX9 50 7 1 .int false := ⟨(RX9, TX9, 8), rfl, by decide, x_i1 149 (by decide +kernel) rfl, rfl, (fun q => by cases q), by decide +kernel⟩
theorem kfX9_53 : x_fl RX9 53 7 2 := ⟨(RX9, TX9, 8), rfl, by decide, x_i1 150 (by decide +kernel) rfl⟩
theorem kpX9_53 : x_fp RX9 53 7 2 .int false := ⟨(RX9, TX9, 8), rfl, by decide, x_i1 150 (by decide +kernel) rfl, rfl, (fun q => by cases q), by decide +kernel⟩
theorem kfX11_75 : x_fl RX11 75 7 2 := ⟨(RX9, TX9, 8), rfl, by decide, x_i1 151 (by decide +kernel) rfl⟩
theorem kpX11_75 : x_fp RX11 75 7 2 .int false := ⟨(RX9, TX9, 8), rfl, by decide, x_i1 151 (by decide +kernel) rfl, rfl, (fun q => by cases q), by decide +kernel⟩
theorem kfX9_15 : x_fl RX9 15 7 3 := ⟨(RX9, TX9, 8), rfl, by decide, x_i1 152 (by decide +kernel) rfl⟩
theorem kpX9_15 : x_fp RX9 15 7 3 .int false := ⟨(RX9, TX9, 8), rfl, by decide, x_i1 152 (by decide +kernel) rfl, rfl, (fun q => by cases q), by decide +kernel⟩
theorem kfX11_78 : x_fl RX11 78 7 3 := ⟨(RX9, TX9, 8), rfl, by decide, x_i1 153 (by decide +kernel) rfl⟩
theorem kpX11_78 : x_fp RX11 78 7 3 .int false := ⟨(RX9, TX9, 8), rfl, by decide, x_i1 153 (by decide +kernel) rfl, rfl, (fun q => by cases q), by decide +kernel⟩
theorem kfX9_19 : x_fl RX9 19 7 4 := ⟨(RX9, TX9, 8), rfl, by decide, x_i1 154 (by decide +kernel) rfl⟩
theorem kpX9_19 : x_fp RX9 19 7 4 (.array .int) true := ⟨(RX9, TX9, 8), rfl, by decide, x_i1 154 (by decide +kernel) rfl, rfl, fun _ => rfl, by decide +kernel⟩
theorem kfX11_332 : x_fl RX11 332 7 4 := ⟨(RX9, TX9, 8), rfl, by decide, x_i1 155 (by decide +kernel) rfl⟩
theorem kfX9_25 : x_fl RX9 25 7 5 := ⟨(RX9, TX9, 8), rfl, by decide, x_i1 156 (by decide +kernel) rfl⟩
theorem kpX9_25 : x_fp RX9 25 7 5 (.array (.object "UprightFair$Fair")) true := ⟨(RX9, TX9, 8), rfl, by decide, x_i1 156 (by decide +kernel) rfl, rfl, fun _ => rfl, by decide +kernel⟩
theorem kfX11_343 : x_fl RX11 343 7 5 := ⟨(RX9, TX9, 8), rfl, by decide, x_i1 157 (by decide +kernel) rfl⟩
theorem kfX9_31 : x_fl RX9 31 7 6 := ⟨(RX9, TX9, 8), rfl, by decide, x_i1 158 (by decide +kernel) rfl⟩
theorem kpX9_31 : x_fp RX9 31 7 6 (.array (.object "UprightFair$Day")) true := ⟨(RX9, TX9, 8), rfl, by decide, x_i1 158 (by decide +kernel) rfl, rfl, fun _ => rfl, by decide +kernel⟩
theorem kfX11_347 : x_fl RX11 347 7 6 := ⟨(RX9, TX9, 8), rfl, by decide, x_i1 159 (by decide +kernel) rfl⟩
theorem kfX9_37 : x_fl RX9 37 7 7 := ⟨(RX9, TX9, 8), rfl, by decide, x_i1 160 (by decide +kernel) rfl⟩
theorem kpX9_37 : x_fp RX9 37 7 7 (.array (.object "UprightFair$Ledger")) true := ⟨(RX9, TX9, 8), rfl, by decide, x_i1 160 (by decide +kernel) rfl, rfl, fun _ => rfl, by decide +kernel⟩
theorem kfX11_351 : x_fl RX11 351 7 7 := ⟨(RX9, TX9, 8), rfl, by decide, x_i1 161 (by decide +kernel) rfl⟩
theorem kfX6_12 : x_fl RX6 12 5 0 := ⟨(RX6, TX6, 13), rfl, by decide, x_i1 192 (by decide +kernel) rfl⟩
theorem kpX6_12 : x_fp RX6 12 5 0 (.object "UprightFair$Fair") true := ⟨(RX6, TX6, 13), rfl, by decide, x_i1 192 (by decide +kernel) rfl, rfl, fun _ => rfl, by decide +kernel⟩
theorem kfX9_76 : x_fl RX9 76 5 0 := ⟨(RX6, TX6, 13), rfl, by decide, x_i1 193 (by decide +kernel) rfl⟩
theorem kfX6_21 : x_fl RX6 21 5 1 := ⟨(RX6, TX6, 13), rfl, by decide, x_i1 194 (by decide +kernel) rfl⟩
theorem kpX6_21 : x_fp RX6 21 5 1 (.object "UprightFair$Day") true := ⟨(RX6, TX6, 13), rfl, by decide, x_i1 194 (by decide +kernel) rfl, rfl, fun _ => rfl, by decide +kernel⟩
theorem kfX9_82 : x_fl RX9 82 5 1 := ⟨(RX6, TX6, 13), rfl, by decide, x_i1 195 (by decide +kernel) rfl⟩
theorem kfX6_28 : x_fl RX6 28 5 2 := ⟨(RX6, TX6, 13), rfl, by decide, x_i1 196 (by decide +kernel) rfl⟩
theorem kpX6_28 : x_fp RX6 28 5 2 (.object "UprightFair$Ledger") true := ⟨(RX6, TX6, 13), rfl, by decide, x_i1 196 (by decide +kernel) rfl, rfl, fun _ => rfl, by decide +kernel⟩
theorem kfX9_86 : x_fl RX9 86 5 2 := ⟨(RX6, TX6, 13), rfl, by decide, x_i1 197 (by decide +kernel) rfl⟩
theorem kfX6_61 : x_fl RX6 61 5 3 := ⟨(RX6, TX6, 13), rfl, by decide, x_i1 198 (by decide +kernel) rfl⟩
theorem kpX6_61 : x_fp RX6 61 5 3 .int false := ⟨(RX6, TX6, 13), rfl, by decide, x_i1 198 (by decide +kernel) rfl, rfl, (fun q => by cases q), by decide +kernel⟩
theorem kfX11_84 : x_fl RX11 84 5 3 := ⟨(RX6, TX6, 13), rfl, by decide, x_i1 199 (by decide +kernel) rfl⟩
theorem kpX11_84 : x_fp RX11 84 5 3 .int false := ⟨(RX6, TX6, 13), rfl, by decide, x_i1 199 (by decide +kernel) rfl, rfl, (fun q => by cases q), by decide +kernel⟩
theorem kfX6_64 : x_fl RX6 64 5 4 := ⟨(RX6, TX6, 13), rfl, by decide, x_i1 200 (by decide +kernel) rfl⟩
theorem kpX6_64 : x_fp RX6 64 5 4 .int false := ⟨(RX6, TX6, 13), rfl, by decide, x_i1 200 (by decide +kernel) rfl, rfl, (fun q => by cases q), by decide +kernel⟩
theorem kfX11_85 : x_fl RX11 85 5 4 := ⟨(RX6, TX6, 13), rfl, by decide, x_i1 201 (by decide +kernel) rfl⟩
theorem kpX11_85 : x_fp RX11 85 5 4 .int false := ⟨(RX6, TX6, 13), rfl, by decide, x_i1 201 (by decide +kernel) rfl, rfl, (fun q => by cases q), by decide +kernel⟩
theorem kfX6_32 : x_fl RX6 32 5 5 := ⟨(RX6, TX6, 13), rfl, by decide, x_i1 202 (by decide +kernel) rfl⟩
theorem kpX6_32 : x_fp RX6 32 5 5 (.array .byte) true := ⟨(RX6, TX6, 13), rfl, by decide, x_i1 202 (by decide +kernel) rfl, rfl, fun _ => rfl, by decide +kernel⟩
theorem kfX6_53 : x_fl RX6 53 5 6 := ⟨(RX6, TX6, 13), rfl, by decide, x_i1 203 (by decide +kernel) rfl⟩
theorem kpX6_53 : x_fp RX6 53 5 6 .int false := ⟨(RX6, TX6, 13), rfl, by decide, x_i1 203 (by decide +kernel) rfl, rfl, (fun q => by cases q), by decide +kernel⟩
theorem kfX6_36 : x_fl RX6 36 5 7 := ⟨(RX6, TX6, 13), rfl, by decide, x_i1 204 (by decide +kernel) rfl⟩
theorem kpX6_36 : x_fp RX6 36 5 7 (.array .int) true := ⟨(RX6, TX6, 13), rfl, by decide, x_i1 204 (by decide +kernel) rfl, rfl, fun _ => rfl, by decide +kernel⟩
theorem kfX6_67 : x_fl RX6 67 5 8 := ⟨(RX6, TX6, 13), rfl, by decide, x_i1 205 (by decide +kernel) rfl⟩
theorem kpX6_67 : x_fp RX6 67 5 8 .int false := ⟨(RX6, TX6, 13), rfl, by decide, x_i1 205 (by decide +kernel) rfl, rfl, (fun q => by cases q), by decide +kernel⟩
theorem kfX6_77 : x_fl RX6 77 5 9 := ⟨(RX6, TX6, 13), rfl, by decide, x_i1 206 (by decide +kernel) rfl⟩
theorem kpX6_77 : x_fp RX6 77 5 9 .int false := ⟨(RX6, TX6, 13), rfl, by decide, x_i1 206 (by decide +kernel) rfl, rfl, (fun q => by cases q), by decide +kernel⟩
theorem kfX6_90 : x_fl RX6 90 5 10 := ⟨(RX6, TX6, 13), rfl, by decide, x_i1 207 (by decide +kernel) rfl⟩
theorem kpX6_90 : x_fp RX6 90 5 10 .int false := ⟨(RX6, TX6, 13), rfl, by decide, x_i1 207 (by decide +kernel) rfl, rfl, (fun q => by cases q), by decide +kernel⟩
theorem kfX6_111 : x_fl RX6 111 5 11 := ⟨(RX6, TX6, 13), rfl, by decide, x_i1 208 (by decide +kernel) rfl⟩
theorem kpX6_111 : x_fp RX6 111 5 11 .int false := ⟨(RX6, TX6, 13), rfl, by decide, x_i1 208 (by decide +kernel) rfl, rfl, (fun q => by cases q), by decide +kernel⟩
theorem kfX6_70 : x_fl RX6 70 5 12 := ⟨(RX6, TX6, 13), rfl, by decide, x_i1 209 (by decide +kernel) rfl⟩
theorem kpX6_70 : x_fp RX6 70 5 12 .int false := ⟨(RX6, TX6, 13), rfl, by decide, x_i1 209 (by decide +kernel) rfl, rfl, (fun q => by cases q), by decide +kernel⟩
theorem kfX7_12 : x_fl RX7 12 6 0 := ⟨(RX7, TX7, 15), rfl, by decide, x_i2 6 (by decide +kernel) rfl⟩
theorem kpX7_12 : x_fp RX7 12 6 0 (.object "UprightFair$Fair") true := ⟨(RX7, TX7, 15), rfl, by decide, x_i2 6 (by decide +kernel) rfl, rfl, fun _ => rfl, by decide +kernel⟩
theorem kfX7_47 : x_fl RX7 47 6 1 := ⟨(RX7, TX7, 15), rfl, by decide, x_i2 7 (by decide +kernel) rfl⟩
theorem kpX7_47 : x_fp RX7 47 6 1 .int false := ⟨(RX7, TX7, 15), rfl, by decide, x_i2 7 (by decide +kernel) rfl, rfl, (fun q => by cases q), by decide +kernel⟩
theorem kfX7_50 : x_fl RX7 50 6 2 := ⟨(RX7, TX7, 15), rfl, by decide, x_i2 8 (by decide +kernel) rfl⟩
theorem kpX7_50 : x_fp RX7 50 6 2 .int false := ⟨(RX7, TX7, 15), rfl, by decide, x_i2 8 (by decide +kernel) rfl, rfl, (fun q => by cases q), by decide +kernel⟩
theorem kfX7_53 : x_fl RX7 53 6 3 := ⟨(RX7, TX7, 15), rfl, by decide, x_i2 9 (by decide +kernel) rfl⟩
theorem kpX7_53 : x_fp RX7 53 6 3 .int false := ⟨(RX7, TX7, 15), rfl, by decide, x_i2 9 (by decide +kernel) rfl, rfl, (fun q => by cases q), by decide +kernel⟩
theorem kfX7_56 : x_fl RX7 56 6 4 := ⟨(RX7, TX7, 15), rfl, by decide, x_i2 10 (by decide +kernel) rfl⟩
theorem kpX7_56 : x_fp RX7 56 6 4 .int false := ⟨(RX7, TX7, 15), rfl, by decide, x_i2 10 (by decide +kernel) rfl, rfl, (fun q => by cases q), by decide +kernel⟩
theorem kfX7_59 : x_fl RX7 59 6 5 := ⟨(RX7, TX7, 15), rfl, by decide, x_i2 11 (by decide +kernel) rfl⟩
theorem kpX7_59 : x_fp RX7 59 6 5 .int false := ⟨(RX7, TX7, 15), rfl, by decide, x_i2 11 (by decide +kernel) rfl, rfl, (fun q => by cases q), by decide +kernel⟩
theorem kfX7_62 : x_fl RX7 62 6 6 := ⟨(RX7, TX7, 15), rfl, by decide, x_i2 12 (by decide +kernel) rfl⟩
theorem kpX7_62 : x_fp RX7 62 6 6 .int false := ⟨(RX7, TX7, 15), rfl, by decide, x_i2 12 (by decide +kernel) rfl, rfl, (fun q => by cases q), by decide +kernel⟩
theorem kfX7_65 : x_fl RX7 65 6 7 := ⟨(RX7, TX7, 15), rfl, by decide, x_i2 13 (by decide +kernel) rfl⟩
theorem kpX7_65 : x_fp RX7 65 6 7 .int false := ⟨(RX7, TX7, 15), rfl, by decide, x_i2 13 (by decide +kernel) rfl, rfl, (fun q => by cases q), by decide +kernel⟩
theorem kfX7_68 : x_fl RX7 68 6 8 := ⟨(RX7, TX7, 15), rfl, by decide, x_i2 14 (by decide +kernel) rfl⟩
theorem kpX7_68 : x_fp RX7 68 6 8 .int false := ⟨(RX7, TX7, 15), rfl, by decide, x_i2 14 (by decide +kernel) rfl, rfl, (fun q => by cases q), by decide +kernel⟩
theorem kfX7_71 : x_fl RX7 71 6 9 := ⟨(RX7, TX7, 15), rfl, by decide, x_i2 15 (by decide +kernel) rfl⟩
theorem kpX7_71 : x_fp RX7 71 6 9 .int false := ⟨(RX7, TX7, 15), rfl, by decide, x_i2 15 (by decide +kernel) rfl, rfl, (fun q => by cases q), by decide +kernel⟩
theorem kfX7_74 : x_fl RX7 74 6 10 := ⟨(RX7, TX7, 15), rfl, by decide, x_i2 16 (by decide +kernel) rfl⟩
theorem kpX7_74 : x_fp RX7 74 6 10 .int false := ⟨(RX7, TX7, 15), rfl, by decide, x_i2 16 (by decide +kernel) rfl, rfl, (fun q => by cases q), by decide +kernel⟩
theorem kfX7_77 : x_fl RX7 77 6 11 := ⟨(RX7, TX7, 15), rfl, by decide, x_i2 17 (by decide +kernel) rfl⟩
theorem kpX7_77 : x_fp RX7 77 6 11 .int false := ⟨(RX7, TX7, 15), rfl, by decide, x_i2 17 (by decide +kernel) rfl, rfl, (fun q => by cases q), by decide +kernel⟩
theorem kfX7_80 : x_fl RX7 80 6 12 := ⟨(RX7, TX7, 15), rfl, by decide, x_i2 18 (by decide +kernel) rfl⟩
theorem kpX7_80 : x_fp RX7 80 6 12 .int false := ⟨(RX7, TX7, 15), rfl, by decide, x_i2 18 (by decide +kernel) rfl, rfl, (fun q => by cases q), by decide +kernel⟩
theorem kfX7_36 : x_fl RX7 36 6 13 := ⟨(RX7, TX7, 15), rfl, by decide, x_i2 19 (by decide +kernel) rfl⟩
theorem kpX7_36 : x_fp RX7 36 6 13 .int false := ⟨(RX7, TX7, 15), rfl, by decide, x_i2 19 (by decide +kernel) rfl, rfl, (fun q => by cases q), by decide +kernel⟩
theorem kfX7_18 : x_fl RX7 18 6 14 := ⟨(RX7, TX7, 15), rfl, by decide, x_i2 20 (by decide +kernel) rfl⟩
theorem kpX7_18 : x_fp RX7 18 6 14 (.array .int) true := ⟨(RX7, TX7, 15), rfl, by decide, x_i2 20 (by decide +kernel) rfl, rfl, fun _ => rfl, by decide +kernel⟩
theorem kfX10_11 : x_fl RX10 11 8 0 := ⟨(RX10, TX10, 8), rfl, by decide, x_i2 58 (by decide +kernel) rfl⟩
theorem kpX10_11 : x_fp RX10 11 8 0 (.array .int) true := ⟨(RX10, TX10, 8), rfl, by decide, x_i2 58 (by decide +kernel) rfl, rfl, fun _ => rfl, by decide +kernel⟩
theorem kfX10_15 : x_fl RX10 15 8 1 := ⟨(RX10, TX10, 8), rfl, by decide, x_i2 59 (by decide +kernel) rfl⟩
theorem kpX10_15 : x_fp RX10 15 8 1 (.array .int) true := ⟨(RX10, TX10, 8), rfl, by decide, x_i2 59 (by decide +kernel) rfl, rfl, fun _ => rfl, by decide +kernel⟩
theorem kfX10_18 : x_fl RX10 18 8 2 := ⟨(RX10, TX10, 8), rfl, by decide, x_i2 60 (by decide +kernel) rfl⟩
theorem kpX10_18 : x_fp RX10 18 8 2 (.array .int) true := ⟨(RX10, TX10, 8), rfl, by decide, x_i2 60 (by decide +kernel) rfl, rfl, fun _ => rfl, by decide +kernel⟩
theorem kfX10_21 : x_fl RX10 21 8 3 := ⟨(RX10, TX10, 8), rfl, by decide, x_i2 61 (by decide +kernel) rfl⟩
theorem kpX10_21 : x_fp RX10 21 8 3 (.array .int) true := ⟨(RX10, TX10, 8), rfl, by decide, x_i2 61 (by decide +kernel) rfl, rfl, fun _ => rfl, by decide +kernel⟩
theorem kfX10_24 : x_fl RX10 24 8 4 := ⟨(RX10, TX10, 8), rfl, by decide, x_i2 62 (by decide +kernel) rfl⟩
theorem kpX10_24 : x_fp RX10 24 8 4 (.array .int) true := ⟨(RX10, TX10, 8), rfl, by decide, x_i2 62 (by decide +kernel) rfl, rfl, fun _ => rfl, by decide +kernel⟩
theorem kfX10_27 : x_fl RX10 27 8 5 := ⟨(RX10, TX10, 8), rfl, by decide, x_i2 63 (by decide +kernel) rfl⟩
theorem kpX10_27 : x_fp RX10 27 8 5 (.array .int) true := ⟨(RX10, TX10, 8), rfl, by decide, x_i2 63 (by decide +kernel) rfl, rfl, fun _ => rfl, by decide +kernel⟩
theorem kfX10_85 : x_fl RX10 85 8 6 := ⟨(RX10, TX10, 8), rfl, by decide, x_i2 64 (by decide +kernel) rfl⟩
theorem kpX10_85 : x_fp RX10 85 8 6 .int false := ⟨(RX10, TX10, 8), rfl, by decide, x_i2 64 (by decide +kernel) rfl, rfl, (fun q => by cases q), by decide +kernel⟩
theorem kfX11_156 : x_fl RX11 156 8 6 := ⟨(RX10, TX10, 8), rfl, by decide, x_i2 65 (by decide +kernel) rfl⟩
theorem kpX11_156 : x_fp RX11 156 8 6 .int false := ⟨(RX10, TX10, 8), rfl, by decide, x_i2 65 (by decide +kernel) rfl, rfl, (fun q => by cases q), by decide +kernel⟩
theorem kfX10_44 : x_fl RX10 44 8 7 := ⟨(RX10, TX10, 8), rfl, by decide, x_i2 66 (by decide +kernel) rfl⟩
theorem kpX10_44 : x_fp RX10 44 8 7 .int false := ⟨(RX10, TX10, 8), rfl, by decide, x_i2 66 (by decide +kernel) rfl, rfl, (fun q => by cases q), by decide +kernel⟩
theorem kfX11_153 : x_fl RX11 153 8 7 := ⟨(RX10, TX10, 8), rfl, by decide, x_i2 67 (by decide +kernel) rfl⟩
theorem kpX11_153 : x_fp RX11 153 8 7 .int false := ⟨(RX10, TX10, 8), rfl, by decide, x_i2 67 (by decide +kernel) rfl, rfl, (fun q => by cases q), by decide +kernel⟩
theorem kfX3_9 : x_fl RX3 9 3 0 := ⟨(RX3, TX3, 6), rfl, by decide, x_i2 91 (by decide +kernel) rfl⟩
theorem kpX3_9 : x_fp RX3 9 3 0 (.array .int) true := ⟨(RX3, TX3, 6), rfl, by decide, x_i2 91 (by decide +kernel) rfl, rfl, fun _ => rfl, by decide +kernel⟩
theorem kfX3_15 : x_fl RX3 15 3 1 := ⟨(RX3, TX3, 6), rfl, by decide, x_i2 92 (by decide +kernel) rfl⟩
theorem kpX3_15 : x_fp RX3 15 3 1 (.array .int) true := ⟨(RX3, TX3, 6), rfl, by decide, x_i2 92 (by decide +kernel) rfl, rfl, fun _ => rfl, by decide +kernel⟩
theorem kfX3_18 : x_fl RX3 18 3 2 := ⟨(RX3, TX3, 6), rfl, by decide, x_i2 93 (by decide +kernel) rfl⟩
theorem kpX3_18 : x_fp RX3 18 3 2 (.array .int) true := ⟨(RX3, TX3, 6), rfl, by decide, x_i2 93 (by decide +kernel) rfl, rfl, fun _ => rfl, by decide +kernel⟩
theorem kfX3_21 : x_fl RX3 21 3 3 := ⟨(RX3, TX3, 6), rfl, by decide, x_i2 94 (by decide +kernel) rfl⟩
theorem kpX3_21 : x_fp RX3 21 3 3 (.array .int) true := ⟨(RX3, TX3, 6), rfl, by decide, x_i2 94 (by decide +kernel) rfl, rfl, fun _ => rfl, by decide +kernel⟩
theorem kfX3_24 : x_fl RX3 24 3 4 := ⟨(RX3, TX3, 6), rfl, by decide, x_i2 95 (by decide +kernel) rfl⟩
theorem kpX3_24 : x_fp RX3 24 3 4 (.array .int) true := ⟨(RX3, TX3, 6), rfl, by decide, x_i2 95 (by decide +kernel) rfl, rfl, fun _ => rfl, by decide +kernel⟩
theorem kfX3_125 : x_fl RX3 125 3 5 := ⟨(RX3, TX3, 6), rfl, by decide, x_i2 96 (by decide +kernel) rfl⟩
theorem kpX3_125 : x_fp RX3 125 3 5 .int false := ⟨(RX3, TX3, 6), rfl, by decide, x_i2 96 (by decide +kernel) rfl, rfl, (fun q => by cases q), by decide +kernel⟩
theorem kfX11_285 : x_fl RX11 285 3 5 := ⟨(RX3, TX3, 6), rfl, by decide, x_i2 97 (by decide +kernel) rfl⟩
theorem kpX11_285 : x_fp RX11 285 3 5 .int false := ⟨(RX3, TX3, 6), rfl, by decide, x_i2 97 (by decide +kernel) rfl, rfl, (fun q => by cases q), by decide +kernel⟩
theorem kfX0_9 : x_fl RX0 9 0 0 := ⟨(RX0, TX0, 1), rfl, by decide, x_i2 117 (by decide +kernel) rfl⟩
theorem kpX0_9 : x_fp RX0 9 0 0 (.array .int) true := ⟨(RX0, TX0, 1), rfl, by decide, x_i2 117 (by decide +kernel) rfl, rfl, fun _ => rfl, by decide +kernel⟩
theorem kfX11_10 : x_fl RX11 10 9 0 := ⟨(RX11, TX11, 8), rfl, by decide, x_i2 121 (by decide +kernel) rfl⟩
theorem kpX11_10 : x_fp RX11 10 9 0 (.object "UprightFair$Told") true := ⟨(RX11, TX11, 8), rfl, by decide, x_i2 121 (by decide +kernel) rfl, rfl, fun _ => rfl, by decide +kernel⟩
theorem kfX11_16 : x_fl RX11 16 9 1 := ⟨(RX11, TX11, 8), rfl, by decide, x_i2 122 (by decide +kernel) rfl⟩
theorem kpX11_16 : x_fp RX11 16 9 1 (.array (.object "UprightFair$Told")) true := ⟨(RX11, TX11, 8), rfl, by decide, x_i2 122 (by decide +kernel) rfl, rfl, fun _ => rfl, by decide +kernel⟩
theorem kfX11_20 : x_fl RX11 20 9 2 := ⟨(RX11, TX11, 8), rfl, by decide, x_i2 123 (by decide +kernel) rfl⟩
theorem kpX11_20 : x_fp RX11 20 9 2 (.array .boolean) true := ⟨(RX11, TX11, 8), rfl, by decide, x_i2 123 (by decide +kernel) rfl, rfl, fun _ => rfl, by decide +kernel⟩
theorem kfX11_27 : x_fl RX11 27 9 3 := ⟨(RX11, TX11, 8), rfl, by decide, x_i2 124 (by decide +kernel) rfl⟩
theorem kpX11_27 : x_fp RX11 27 9 3 (.object "UprightFair$Reader") true := ⟨(RX11, TX11, 8), rfl, by decide, x_i2 124 (by decide +kernel) rfl, rfl, fun _ => rfl, by decide +kernel⟩
theorem kfX11_34 : x_fl RX11 34 9 4 := ⟨(RX11, TX11, 8), rfl, by decide, x_i2 125 (by decide +kernel) rfl⟩
theorem kpX11_34 : x_fp RX11 34 9 4 (.object "UprightFair$Stage") true := ⟨(RX11, TX11, 8), rfl, by decide, x_i2 125 (by decide +kernel) rfl, rfl, fun _ => rfl, by decide +kernel⟩
theorem kfX11_41 : x_fl RX11 41 9 5 := ⟨(RX11, TX11, 8), rfl, by decide, x_i2 126 (by decide +kernel) rfl⟩
theorem kpX11_41 : x_fp RX11 41 9 5 (.object "UprightFair$Ways") true := ⟨(RX11, TX11, 8), rfl, by decide, x_i2 126 (by decide +kernel) rfl, rfl, fun _ => rfl, by decide +kernel⟩
theorem kfX11_48 : x_fl RX11 48 9 6 := ⟨(RX11, TX11, 8), rfl, by decide, x_i2 127 (by decide +kernel) rfl⟩
theorem kpX11_48 : x_fp RX11 48 9 6 (.object "UprightFair$Folk") true := ⟨(RX11, TX11, 8), rfl, by decide, x_i2 127 (by decide +kernel) rfl, rfl, fun _ => rfl, by decide +kernel⟩
theorem kfX11_55 : x_fl RX11 55 9 7 := ⟨(RX11, TX11, 8), rfl, by decide, x_i2 128 (by decide +kernel) rfl⟩
theorem kpX11_55 : x_fp RX11 55 9 7 (.object "UprightFair$Conscience") true := ⟨(RX11, TX11, 8), rfl, by decide, x_i2 128 (by decide +kernel) rfl, rfl, fun _ => rfl, by decide +kernel⟩
theorem kfX12_72 : x_fl RX12 72 10 0 := ⟨(RX12, TX12, 54), rfl, by decide, x_i6 60 (by decide +kernel) rfl⟩
theorem kpX12_72 : x_fp RX12 72 10 0 .int false := ⟨(RX12, TX12, 54), rfl, by decide, x_i6 60 (by decide +kernel) rfl, rfl, (fun q => by cases q), by decide +kernel⟩
theorem kfX12_7 : x_fl RX12 7 10 1 := ⟨(RX12, TX12, 54), rfl, by decide, x_i6 61 (by decide +kernel) rfl⟩
theorem kpX12_7 : x_fp RX12 7 10 1 (.array .byte) true := ⟨(RX12, TX12, 54), rfl, by decide, x_i6 61 (by decide +kernel) rfl, rfl, fun _ => rfl, by decide +kernel⟩
theorem kfX12_13 : x_fl RX12 13 10 2 := ⟨(RX12, TX12, 54), rfl, by decide, x_i6 62 (by decide +kernel) rfl⟩
theorem kpX12_13 : x_fp RX12 13 10 2 (.array .int) true := ⟨(RX12, TX12, 54), rfl, by decide, x_i6 62 (by decide +kernel) rfl, rfl, fun _ => rfl, by decide +kernel⟩
theorem kfX12_17 : x_fl RX12 17 10 3 := ⟨(RX12, TX12, 54), rfl, by decide, x_i6 63 (by decide +kernel) rfl⟩
theorem kpX12_17 : x_fp RX12 17 10 3 (.array .int) true := ⟨(RX12, TX12, 54), rfl, by decide, x_i6 63 (by decide +kernel) rfl, rfl, fun _ => rfl, by decide +kernel⟩
theorem kfX12_20 : x_fl RX12 20 10 4 := ⟨(RX12, TX12, 54), rfl, by decide, x_i6 64 (by decide +kernel) rfl⟩
theorem kpX12_20 : x_fp RX12 20 10 4 (.array .int) true := ⟨(RX12, TX12, 54), rfl, by decide, x_i6 64 (by decide +kernel) rfl, rfl, fun _ => rfl, by decide +kernel⟩
theorem kfX12_23 : x_fl RX12 23 10 5 := ⟨(RX12, TX12, 54), rfl, by decide, x_i6 65 (by decide +kernel) rfl⟩
theorem kpX12_23 : x_fp RX12 23 10 5 (.array .int) true := ⟨(RX12, TX12, 54), rfl, by decide, x_i6 65 (by decide +kernel) rfl, rfl, fun _ => rfl, by decide +kernel⟩
theorem kfX12_26 : x_fl RX12 26 10 6 := ⟨(RX12, TX12, 54), rfl, by decide, x_i6 66 (by decide +kernel) rfl⟩
theorem kpX12_26 : x_fp RX12 26 10 6 (.array .int) true := ⟨(RX12, TX12, 54), rfl, by decide, x_i6 66 (by decide +kernel) rfl, rfl, fun _ => rfl, by decide +kernel⟩
theorem kfX12_29 : x_fl RX12 29 10 7 := ⟨(RX12, TX12, 54), rfl, by decide, x_i6 67 (by decide +kernel) rfl⟩
theorem kpX12_29 : x_fp RX12 29 10 7 (.array .int) true := ⟨(RX12, TX12, 54), rfl, by decide, x_i6 67 (by decide +kernel) rfl, rfl, fun _ => rfl, by decide +kernel⟩
theorem kfX12_32 : x_fl RX12 32 10 8 := ⟨(RX12, TX12, 54), rfl, by decide, x_i6 68 (by decide +kernel) rfl⟩
theorem kpX12_32 : x_fp RX12 32 10 8 (.array .int) true := ⟨(RX12, TX12, 54), rfl, by decide, x_i6 68 (by decide +kernel) rfl, rfl, fun _ => rfl, by decide +kernel⟩
theorem kfX12_92 : x_fl RX12 92 10 9 := ⟨(RX12, TX12, 54), rfl, by decide, x_i6 69 (by decide +kernel) rfl⟩
theorem kpX12_92 : x_fp RX12 92 10 9 .int false := ⟨(RX12, TX12, 54), rfl, by decide, x_i6 69 (by decide +kernel) rfl, rfl, (fun q => by cases q), by decide +kernel⟩
theorem kfX12_95 : x_fl RX12 95 10 10 := ⟨(RX12, TX12, 54), rfl, by decide, x_i6 70 (by decide +kernel) rfl⟩
theorem kpX12_95 : x_fp RX12 95 10 10 .int false := ⟨(RX12, TX12, 54), rfl, by decide, x_i6 70 (by decide +kernel) rfl, rfl, (fun q => by cases q), by decide +kernel⟩
theorem kfX12_102 : x_fl RX12 102 10 11 := ⟨(RX12, TX12, 54), rfl, by decide, x_i6 71 (by decide +kernel) rfl⟩
theorem kpX12_102 : x_fp RX12 102 10 11 .int false := ⟨(RX12, TX12, 54), rfl, by decide, x_i6 71 (by decide +kernel) rfl, rfl, (fun q => by cases q), by decide +kernel⟩
theorem kfX12_109 : x_fl RX12 109 10 12 := ⟨(RX12, TX12, 54), rfl, by decide, x_i6 72 (by decide +kernel) rfl⟩
theorem kpX12_109 : x_fp RX12 109 10 12 .int false := ⟨(RX12, TX12, 54), rfl, by decide, x_i6 72 (by decide +kernel) rfl, rfl, (fun q => by cases q), by decide +kernel⟩
theorem kfX12_112 : x_fl RX12 112 10 13 := ⟨(RX12, TX12, 54), rfl, by decide, x_i6 73 (by decide +kernel) rfl⟩
theorem kpX12_112 : x_fp RX12 112 10 13 .int false := ⟨(RX12, TX12, 54), rfl, by decide, x_i6 73 (by decide +kernel) rfl, rfl, (fun q => by cases q), by decide +kernel⟩
theorem kfX12_105 : x_fl RX12 105 10 14 := ⟨(RX12, TX12, 54), rfl, by decide, x_i6 74 (by decide +kernel) rfl⟩
theorem kpX12_105 : x_fp RX12 105 10 14 .long false := ⟨(RX12, TX12, 54), rfl, by decide, x_i6 74 (by decide +kernel) rfl, rfl, (fun q => by cases q), by decide +kernel⟩
theorem kfX12_115 : x_fl RX12 115 10 15 := ⟨(RX12, TX12, 54), rfl, by decide, x_i6 75 (by decide +kernel) rfl⟩
theorem kpX12_115 : x_fp RX12 115 10 15 .int false := ⟨(RX12, TX12, 54), rfl, by decide, x_i6 75 (by decide +kernel) rfl, rfl, (fun q => by cases q), by decide +kernel⟩
theorem kfX12_118 : x_fl RX12 118 10 16 := ⟨(RX12, TX12, 54), rfl, by decide, x_i6 76 (by decide +kernel) rfl⟩
theorem kpX12_118 : x_fp RX12 118 10 16 .int false := ⟨(RX12, TX12, 54), rfl, by decide, x_i6 76 (by decide +kernel) rfl, rfl, (fun q => by cases q), by decide +kernel⟩
theorem kfX12_121 : x_fl RX12 121 10 17 := ⟨(RX12, TX12, 54), rfl, by decide, x_i6 77 (by decide +kernel) rfl⟩
theorem kpX12_121 : x_fp RX12 121 10 17 .int false := ⟨(RX12, TX12, 54), rfl, by decide, x_i6 77 (by decide +kernel) rfl, rfl, (fun q => by cases q), by decide +kernel⟩
theorem kfX12_35 : x_fl RX12 35 10 18 := ⟨(RX12, TX12, 54), rfl, by decide, x_i6 78 (by decide +kernel) rfl⟩
theorem kpX12_35 : x_fp RX12 35 10 18 (.array .int) true := ⟨(RX12, TX12, 54), rfl, by decide, x_i6 78 (by decide +kernel) rfl, rfl, fun _ => rfl, by decide +kernel⟩
theorem kfX12_38 : x_fl RX12 38 10 19 := ⟨(RX12, TX12, 54), rfl, by decide, x_i6 79 (by decide +kernel) rfl⟩
theorem kpX12_38 : x_fp RX12 38 10 19 (.array .int) true := ⟨(RX12, TX12, 54), rfl, by decide, x_i6 79 (by decide +kernel) rfl, rfl, fun _ => rfl, by decide +kernel⟩
theorem kfX12_150 : x_fl RX12 150 10 20 := ⟨(RX12, TX12, 54), rfl, by decide, x_i6 80 (by decide +kernel) rfl⟩
theorem kpX12_150 : x_fp RX12 150 10 20 .int false := ⟨(RX12, TX12, 54), rfl, by decide, x_i6 80 (by decide +kernel) rfl, rfl, (fun q => by cases q), by decide +kernel⟩
theorem kfX12_132 : x_fl RX12 132 10 21 := ⟨(RX12, TX12, 54), rfl, by decide, x_i6 81 (by decide +kernel) rfl⟩
theorem kpX12_132 : x_fp RX12 132 10 21 .boolean false := ⟨(RX12, TX12, 54), rfl, by decide, x_i6 81 (by decide +kernel) rfl, rfl, (fun q => by cases q), by decide +kernel⟩
theorem kfX12_241 : x_fl RX12 241 10 22 := ⟨(RX12, TX12, 54), rfl, by decide, x_i6 82 (by decide +kernel) rfl⟩
theorem kpX12_241 : x_fp RX12 241 10 22 .int false := ⟨(RX12, TX12, 54), rfl, by decide, x_i6 82 (by decide +kernel) rfl, rfl, (fun q => by cases q), by decide +kernel⟩
theorem kfX12_248 : x_fl RX12 248 10 23 := ⟨(RX12, TX12, 54), rfl, by decide, x_i6 83 (by decide +kernel) rfl⟩
theorem kpX12_248 : x_fp RX12 248 10 23 .int false := ⟨(RX12, TX12, 54), rfl, by decide, x_i6 83 (by decide +kernel) rfl, rfl, (fun q => by cases q), by decide +kernel⟩
theorem kfX12_251 : x_fl RX12 251 10 24 := ⟨(RX12, TX12, 54), rfl, by decide, x_i6 84 (by decide +kernel) rfl⟩
theorem kpX12_251 : x_fp RX12 251 10 24 .int false := ⟨(RX12, TX12, 54), rfl, by decide, x_i6 84 (by decide +kernel) rfl, rfl, (fun q => by cases q), by decide +kernel⟩
theorem kfX12_254 : x_fl RX12 254 10 25 := ⟨(RX12, TX12, 54), rfl, by decide, x_i6 85 (by decide +kernel) rfl⟩
theorem kpX12_254 : x_fp RX12 254 10 25 .int false := ⟨(RX12, TX12, 54), rfl, by decide, x_i6 85 (by decide +kernel) rfl, rfl, (fun q => by cases q), by decide +kernel⟩
theorem kfX12_257 : x_fl RX12 257 10 26 := ⟨(RX12, TX12, 54), rfl, by decide, x_i6 86 (by decide +kernel) rfl⟩
theorem kpX12_257 : x_fp RX12 257 10 26 .int false := ⟨(RX12, TX12, 54), rfl, by decide, x_i6 86 (by decide +kernel) rfl, rfl, (fun q => by cases q), by decide +kernel⟩
theorem kfX12_260 : x_fl RX12 260 10 27 := ⟨(RX12, TX12, 54), rfl, by decide, x_i6 87 (by decide +kernel) rfl⟩
theorem kpX12_260 : x_fp RX12 260 10 27 .int false := ⟨(RX12, TX12, 54), rfl, by decide, x_i6 87 (by decide +kernel) rfl, rfl, (fun q => by cases q), by decide +kernel⟩
theorem kfX12_263 : x_fl RX12 263 10 28 := ⟨(RX12, TX12, 54), rfl, by decide, x_i6 88 (by decide +kernel) rfl⟩
theorem kpX12_263 : x_fp RX12 263 10 28 .int false := ⟨(RX12, TX12, 54), rfl, by decide, x_i6 88 (by decide +kernel) rfl, rfl, (fun q => by cases q), by decide +kernel⟩
theorem kfX12_266 : x_fl RX12 266 10 29 := ⟨(RX12, TX12, 54), rfl, by decide, x_i6 89 (by decide +kernel) rfl⟩
theorem kpX12_266 : x_fp RX12 266 10 29 .int false := ⟨(RX12, TX12, 54), rfl, by decide, x_i6 89 (by decide +kernel) rfl, rfl, (fun q => by cases q), by decide +kernel⟩
theorem kfX12_269 : x_fl RX12 269 10 30 := ⟨(RX12, TX12, 54), rfl, by decide, x_i6 90 (by decide +kernel) rfl⟩
theorem kpX12_269 : x_fp RX12 269 10 30 .int false := ⟨(RX12, TX12, 54), rfl, by decide, x_i6 90 (by decide +kernel) rfl, rfl, (fun q => by cases q), by decide +kernel⟩
theorem kfX12_272 : x_fl RX12 272 10 31 := ⟨(RX12, TX12, 54), rfl, by decide, x_i6 91 (by decide +kernel) rfl⟩
theorem kpX12_272 : x_fp RX12 272 10 31 .int false := ⟨(RX12, TX12, 54), rfl, by decide, x_i6 91 (by decide +kernel) rfl, rfl, (fun q => by cases q), by decide +kernel⟩
theorem kfX12_275 : x_fl RX12 275 10 32 := ⟨(RX12, TX12, 54), rfl, by decide, x_i6 92 (by decide +kernel) rfl⟩
theorem kpX12_275 : x_fp RX12 275 10 32 .int false := ⟨(RX12, TX12, 54), rfl, by decide, x_i6 92 (by decide +kernel) rfl, rfl, (fun q => by cases q), by decide +kernel⟩
theorem kfX12_278 : x_fl RX12 278 10 33 := ⟨(RX12, TX12, 54), rfl, by decide, x_i6 93 (by decide +kernel) rfl⟩
theorem kpX12_278 : x_fp RX12 278 10 33 .int false := ⟨(RX12, TX12, 54), rfl, by decide, x_i6 93 (by decide +kernel) rfl, rfl, (fun q => by cases q), by decide +kernel⟩
theorem kfX12_281 : x_fl RX12 281 10 34 := ⟨(RX12, TX12, 54), rfl, by decide, x_i6 94 (by decide +kernel) rfl⟩
theorem kpX12_281 : x_fp RX12 281 10 34 .int false := ⟨(RX12, TX12, 54), rfl, by decide, x_i6 94 (by decide +kernel) rfl, rfl, (fun q => by cases q), by decide +kernel⟩
theorem kfX12_284 : x_fl RX12 284 10 35 := ⟨(RX12, TX12, 54), rfl, by decide, x_i6 95 (by decide +kernel) rfl⟩
theorem kpX12_284 : x_fp RX12 284 10 35 .int false := ⟨(RX12, TX12, 54), rfl, by decide, x_i6 95 (by decide +kernel) rfl, rfl, (fun q => by cases q), by decide +kernel⟩
theorem kfX12_287 : x_fl RX12 287 10 36 := ⟨(RX12, TX12, 54), rfl, by decide, x_i6 96 (by decide +kernel) rfl⟩
theorem kpX12_287 : x_fp RX12 287 10 36 .int false := ⟨(RX12, TX12, 54), rfl, by decide, x_i6 96 (by decide +kernel) rfl, rfl, (fun q => by cases q), by decide +kernel⟩
theorem kfX12_41 : x_fl RX12 41 10 37 := ⟨(RX12, TX12, 54), rfl, by decide, x_i6 97 (by decide +kernel) rfl⟩
theorem kpX12_41 : x_fp RX12 41 10 37 (.array .int) true := ⟨(RX12, TX12, 54), rfl, by decide, x_i6 97 (by decide +kernel) rfl, rfl, fun _ => rfl, by decide +kernel⟩
theorem kfX12_44 : x_fl RX12 44 10 38 := ⟨(RX12, TX12, 54), rfl, by decide, x_i6 98 (by decide +kernel) rfl⟩
theorem kpX12_44 : x_fp RX12 44 10 38 (.array .int) true := ⟨(RX12, TX12, 54), rfl, by decide, x_i6 98 (by decide +kernel) rfl, rfl, fun _ => rfl, by decide +kernel⟩
theorem kfX12_47 : x_fl RX12 47 10 39 := ⟨(RX12, TX12, 54), rfl, by decide, x_i6 99 (by decide +kernel) rfl⟩
theorem kpX12_47 : x_fp RX12 47 10 39 (.array .int) true := ⟨(RX12, TX12, 54), rfl, by decide, x_i6 99 (by decide +kernel) rfl, rfl, fun _ => rfl, by decide +kernel⟩
theorem kfX12_310 : x_fl RX12 310 10 40 := ⟨(RX12, TX12, 54), rfl, by decide, x_i6 100 (by decide +kernel) rfl⟩
theorem kpX12_310 : x_fp RX12 310 10 40 .int false := ⟨(RX12, TX12, 54), rfl, by decide, x_i6 100 (by decide +kernel) rfl, rfl, (fun q => by cases q), by decide +kernel⟩
theorem kfX12_50 : x_fl RX12 50 10 41 := ⟨(RX12, TX12, 54), rfl, by decide, x_i6 101 (by decide +kernel) rfl⟩
theorem kpX12_50 : x_fp RX12 50 10 41 (.array .int) true := ⟨(RX12, TX12, 54), rfl, by decide, x_i6 101 (by decide +kernel) rfl, rfl, fun _ => rfl, by decide +kernel⟩
theorem kfX12_53 : x_fl RX12 53 10 42 := ⟨(RX12, TX12, 54), rfl, by decide, x_i6 102 (by decide +kernel) rfl⟩
theorem kpX12_53 : x_fp RX12 53 10 42 (.array .int) true := ⟨(RX12, TX12, 54), rfl, by decide, x_i6 102 (by decide +kernel) rfl, rfl, fun _ => rfl, by decide +kernel⟩
theorem kfX12_56 : x_fl RX12 56 10 43 := ⟨(RX12, TX12, 54), rfl, by decide, x_i6 103 (by decide +kernel) rfl⟩
theorem kpX12_56 : x_fp RX12 56 10 43 (.array .int) true := ⟨(RX12, TX12, 54), rfl, by decide, x_i6 103 (by decide +kernel) rfl, rfl, fun _ => rfl, by decide +kernel⟩
theorem kfX12_396 : x_fl RX12 396 10 44 := ⟨(RX12, TX12, 54), rfl, by decide, x_i6 104 (by decide +kernel) rfl⟩
theorem kpX12_396 : x_fp RX12 396 10 44 .int false := ⟨(RX12, TX12, 54), rfl, by decide, x_i6 104 (by decide +kernel) rfl, rfl, (fun q => by cases q), by decide +kernel⟩
theorem kfX12_59 : x_fl RX12 59 10 45 := ⟨(RX12, TX12, 54), rfl, by decide, x_i6 105 (by decide +kernel) rfl⟩
theorem kpX12_59 : x_fp RX12 59 10 45 (.array .int) true := ⟨(RX12, TX12, 54), rfl, by decide, x_i6 105 (by decide +kernel) rfl, rfl, fun _ => rfl, by decide +kernel⟩
theorem kfX12_415 : x_fl RX12 415 10 46 := ⟨(RX12, TX12, 54), rfl, by decide, x_i6 106 (by decide +kernel) rfl⟩
theorem kpX12_415 : x_fp RX12 415 10 46 .int false := ⟨(RX12, TX12, 54), rfl, by decide, x_i6 106 (by decide +kernel) rfl, rfl, (fun q => by cases q), by decide +kernel⟩
theorem kfX12_425 : x_fl RX12 425 10 47 := ⟨(RX12, TX12, 54), rfl, by decide, x_i6 107 (by decide +kernel) rfl⟩
theorem kpX12_425 : x_fp RX12 425 10 47 .int false := ⟨(RX12, TX12, 54), rfl, by decide, x_i6 107 (by decide +kernel) rfl, rfl, (fun q => by cases q), by decide +kernel⟩
theorem kfX12_62 : x_fl RX12 62 10 48 := ⟨(RX12, TX12, 54), rfl, by decide, x_i6 108 (by decide +kernel) rfl⟩
theorem kpX12_62 : x_fp RX12 62 10 48 (.array .int) true := ⟨(RX12, TX12, 54), rfl, by decide, x_i6 108 (by decide +kernel) rfl, rfl, fun _ => rfl, by decide +kernel⟩
theorem kfX12_446 : x_fl RX12 446 10 49 := ⟨(RX12, TX12, 54), rfl, by decide, x_i6 109 (by decide +kernel) rfl⟩
theorem kpX12_446 : x_fp RX12 446 10 49 .int false := ⟨(RX12, TX12, 54), rfl, by decide, x_i6 109 (by decide +kernel) rfl, rfl, (fun q => by cases q), by decide +kernel⟩
theorem kfX12_443 : x_fl RX12 443 10 50 := ⟨(RX12, TX12, 54), rfl, by decide, x_i6 110 (by decide +kernel) rfl⟩
theorem kpX12_443 : x_fp RX12 443 10 50 .int false := ⟨(RX12, TX12, 54), rfl, by decide, x_i6 110 (by decide +kernel) rfl, rfl, (fun q => by cases q), by decide +kernel⟩
theorem kfX12_467 : x_fl RX12 467 10 51 := ⟨(RX12, TX12, 54), rfl, by decide, x_i6 111 (by decide +kernel) rfl⟩
theorem kpX12_467 : x_fp RX12 467 10 51 .int false := ⟨(RX12, TX12, 54), rfl, by decide, x_i6 111 (by decide +kernel) rfl, rfl, (fun q => by cases q), by decide +kernel⟩
theorem kfX12_65 : x_fl RX12 65 10 52 := ⟨(RX12, TX12, 54), rfl, by decide, x_i6 112 (by decide +kernel) rfl⟩
theorem kpX12_65 : x_fp RX12 65 10 52 (.array .int) true := ⟨(RX12, TX12, 54), rfl, by decide, x_i6 112 (by decide +kernel) rfl, rfl, fun _ => rfl, by decide +kernel⟩
theorem kfX12_68 : x_fl RX12 68 10 53 := ⟨(RX12, TX12, 54), rfl, by decide, x_i6 113 (by decide +kernel) rfl⟩
theorem kpX12_68 : x_fp RX12 68 10 53 (.array .boolean) true := ⟨(RX12, TX12, 54), rfl, by decide, x_i6 113 (by decide +kernel) rfl, rfl, fun _ => rfl, by decide +kernel⟩
theorem klL_9 : x_lkI RL 9 mX11_init 0 := ⟨⟨x_i1 25 (by decide +kernel) rfl, kiX11, kcX11_init, ⟨by decide +kernel, by decide +kernel, by decide +kernel⟩, by decide⟩, (x_i1 26 (by decide +kernel) rfl), rfl, rfl⟩
theorem klX11_9 : x_lkI RX11 9 mX9_init 0 := ⟨⟨x_i1 33 (by decide +kernel) rfl, kiX9, kcX9_init, ⟨by decide +kernel, by decide +kernel, by decide +kernel⟩, by decide⟩, (x_i1 34 (by decide +kernel) rfl), rfl, rfl⟩
theorem klX9_41 : x_lkN RX9 41 mX2_init 0 := ⟨by simp [x_nest], kiX2, kcX2_init, ⟨by decide +kernel, by decide +kernel, by decide +kernel⟩, by decide, (x_i1 45 (by decide +kernel) rfl), rfl, rfl⟩
theorem klX9_42 : x_lkN RX9 42 mX1_init 0 := ⟨by simp [x_nest], kiX1, kcX1_init, ⟨by decide +kernel, by decide +kernel, by decide +kernel⟩, by decide, (x_i1 113 (by decide +kernel) rfl), rfl, rfl⟩
theorem klX9_43 : x_lkN RX9 43 mX4_init 0 := ⟨by simp [x_nest], kiX4, kcX4_init, ⟨by decide +kernel, by decide +kernel, by decide +kernel⟩, by decide, (x_i1 127 (by decide +kernel) rfl), rfl, rfl⟩
theorem klX11_26 : x_lkN RX11 26 mX6_init 0 := ⟨by simp [x_nest], kiX6, kcX6_init, ⟨by decide +kernel, by decide +kernel, by decide +kernel⟩, by decide, (x_i1 183 (by decide +kernel) rfl), rfl, rfl⟩
theorem klX6_11 : x_lkN RX6 11 mX2_init 0 := ⟨by simp [x_nest], kiX2, kcX2_init, ⟨by decide +kernel, by decide +kernel, by decide +kernel⟩, by decide, (x_i1 45 (by decide +kernel) rfl), rfl, rfl⟩
theorem klX6_20 : x_lkN RX6 20 mX1_init 0 := ⟨by simp [x_nest], kiX1, kcX1_init, ⟨by decide +kernel, by decide +kernel, by decide +kernel⟩, by decide, (x_i1 113 (by decide +kernel) rfl), rfl, rfl⟩
theorem klX6_27 : x_lkN RX6 27 mX4_init 0 := ⟨by simp [x_nest], kiX4, kcX4_init, ⟨by decide +kernel, by decide +kernel, by decide +kernel⟩, by decide, (x_i1 127 (by decide +kernel) rfl), rfl, rfl⟩
theorem klX11_33 : x_lkN RX11 33 mX7_init 0 := ⟨by simp [x_nest], kiX7, kcX7_init, ⟨by decide +kernel, by decide +kernel, by decide +kernel⟩, by decide, (x_i2 1 (by decide +kernel) rfl), rfl, rfl⟩
theorem klX7_11 : x_lkN RX7 11 mX2_init 0 := ⟨by simp [x_nest], kiX2, kcX2_init, ⟨by decide +kernel, by decide +kernel, by decide +kernel⟩, by decide, (x_i1 45 (by decide +kernel) rfl), rfl, rfl⟩
theorem klX11_40 : x_lkN RX11 40 mX10_init 0 := ⟨by simp [x_nest], kiX10, kcX10_init, ⟨by decide +kernel, by decide +kernel, by decide +kernel⟩, by decide, (x_i2 55 (by decide +kernel) rfl), rfl, rfl⟩
theorem klX11_47 : x_lkN RX11 47 mX3_init 0 := ⟨by simp [x_nest], kiX3, kcX3_init, ⟨by decide +kernel, by decide +kernel, by decide +kernel⟩, by decide, (x_i2 88 (by decide +kernel) rfl), rfl, rfl⟩
theorem klX11_54 : x_lkN RX11 54 mX0_init 0 := ⟨by simp [x_nest], kiX0, kcX0_init, ⟨by decide +kernel, by decide +kernel, by decide +kernel⟩, by decide, (x_i2 114 (by decide +kernel) rfl), rfl, rfl⟩
theorem klL_13 : x_lkV RL 13 mX11_feed 5 9 := ⟨⟨x_i2 146 (by decide +kernel) rfl, kiX11, kcX11_feed, ⟨by decide +kernel, by decide +kernel, by decide +kernel⟩, by decide⟩, (x_i2 147 (by decide +kernel) rfl), (x_i2 148 (by decide +kernel) rfl), (RX11, TX11, 8), rfl, rfl⟩
theorem klX11_63 : x_lkV RX11 63 mX9_put 1 7 := ⟨⟨x_i2 150 (by decide +kernel) rfl, kiX9, kcX9_put, ⟨by decide +kernel, by decide +kernel, by decide +kernel⟩, by decide⟩, (x_i2 151 (by decide +kernel) rfl), (x_i2 152 (by decide +kernel) rfl), (RX9, TX9, 8), rfl, rfl⟩
theorem klL_18 : x_lkV RL 18 mX11_end 1 9 := ⟨⟨x_i2 154 (by decide +kernel) rfl, kiX11, kcX11_end, ⟨by decide +kernel, by decide +kernel, by decide +kernel⟩, by decide⟩, (x_i2 155 (by decide +kernel) rfl), (x_i2 156 (by decide +kernel) rfl), (RX11, TX11, 8), rfl, rfl⟩
theorem klL_23 : x_lkV RL 23 mX11_text 2 9 := ⟨⟨x_i2 158 (by decide +kernel) rfl, kiX11, kcX11_text, ⟨by decide +kernel, by decide +kernel, by decide +kernel⟩, by decide⟩, (x_i2 159 (by decide +kernel) rfl), (x_i2 160 (by decide +kernel) rfl), (RX11, TX11, 8), rfl, rfl⟩
theorem klX11_67 : x_lkV RX11 67 mX9_numberFor 2 7 := ⟨⟨x_i2 162 (by decide +kernel) rfl, kiX9, kcX9_numberFor, ⟨by decide +kernel, by decide +kernel, by decide +kernel⟩, by decide⟩, (x_i2 163 (by decide +kernel) rfl), (x_i2 164 (by decide +kernel) rfl), (RX9, TX9, 8), rfl, rfl⟩
theorem klX9_72 : x_lkV RX9 72 mX9_has 2 7 := ⟨⟨x_i2 166 (by decide +kernel) rfl, kiX9, kcX9_has, ⟨by decide +kernel, by decide +kernel, by decide +kernel⟩, by decide⟩, (x_i2 167 (by decide +kernel) rfl), (x_i2 168 (by decide +kernel) rfl), (RX9, TX9, 8), rfl, rfl⟩
theorem klX9_66 : x_lkS RX9 66 mX8_at 2 := ⟨⟨x_i2 170 (by decide +kernel) rfl, kiX8, kcX8_at, ⟨by decide +kernel, by decide +kernel, by decide +kernel⟩, by decide⟩, (x_i2 171 (by decide +kernel) rfl)⟩
theorem klX11_71 : x_lkV RX11 71 mX6_takeTape 1 5 := ⟨⟨x_i2 173 (by decide +kernel) rfl, kiX6, kcX6_takeTape, ⟨by decide +kernel, by decide +kernel, by decide +kernel⟩, by decide⟩, (x_i2 174 (by decide +kernel) rfl), (x_i2 175 (by decide +kernel) rfl), (RX6, TX6, 13), rfl, rfl⟩
theorem klX11_81 : x_lkV RX11 81 mX6_read 1 5 := ⟨⟨x_i2 180 (by decide +kernel) rfl, kiX6, kcX6_read, ⟨by decide +kernel, by decide +kernel, by decide +kernel⟩, by decide⟩, (x_i2 181 (by decide +kernel) rfl), (x_i2 182 (by decide +kernel) rfl), (RX6, TX6, 13), rfl, rfl⟩
theorem klX6_54 : x_lkV RX6 54 mX2_clear 0 2 := ⟨⟨x_i2 184 (by decide +kernel) rfl, kiX2, kcX2_clear, ⟨by decide +kernel, by decide +kernel, by decide +kernel⟩, by decide⟩, (x_i2 185 (by decide +kernel) rfl), (x_i2 186 (by decide +kernel) rfl), (RX2, TX2, 12), rfl, rfl⟩
theorem klX2_49 : x_lkS RX2 49 mJ7_fill_53178 2 := ⟨⟨x_i2 188 (by decide +kernel) rfl, kiJ7, kcJ7_fill_53178, ⟨by decide +kernel, by decide +kernel, by decide +kernel⟩, by decide⟩, (x_i2 189 (by decide +kernel) rfl)⟩
theorem klX6_60 : x_lkV RX6 60 mX4_clear 0 4 := ⟨⟨x_i2 191 (by decide +kernel) rfl, kiX4, kcX4_clear, ⟨by decide +kernel, by decide +kernel, by decide +kernel⟩, by decide⟩, (x_i2 192 (by decide +kernel) rfl), (x_i2 193 (by decide +kernel) rfl), (RX4, TX4, 4), rfl, rfl⟩
theorem klX6_73 : x_lkV RX6 73 mX6_readLines 1 5 := ⟨⟨x_i2 195 (by decide +kernel) rfl, kiX6, kcX6_readLines, ⟨by decide +kernel, by decide +kernel, by decide +kernel⟩, by decide⟩, (x_i2 197 (by decide +kernel) rfl), (x_in 0 (by decide +kernel) rfl), (RX6, TX6, 13), rfl, rfl⟩
theorem klX6_87 : x_lkV RX6 87 mX6_step 0 5 := ⟨⟨x_i2 199 (by decide +kernel) rfl, kiX6, kcX6_step, ⟨by decide +kernel, by decide +kernel, by decide +kernel⟩, by decide⟩, (x_i2 201 (by decide +kernel) rfl), (x_in 1 (by decide +kernel) rfl), (RX6, TX6, 13), rfl, rfl⟩
theorem klX6_181 : x_lkV RX6 181 mX6_byteAt 1 5 := ⟨⟨x_i2 203 (by decide +kernel) rfl, kiX6, kcX6_byteAt, ⟨by decide +kernel, by decide +kernel, by decide +kernel⟩, by decide⟩, (x_i2 205 (by decide +kernel) rfl), (x_in 2 (by decide +kernel) rfl), (RX6, TX6, 13), rfl, rfl⟩
theorem klX6_184 : x_lkS RX6 184 mX6_isBlank 1 := ⟨⟨x_i2 207 (by decide +kernel) rfl, kiX6, kcX6_isBlank, ⟨by decide +kernel, by decide +kernel, by decide +kernel⟩, by decide⟩, (x_i2 208 (by decide +kernel) rfl)⟩
theorem klX6_187 : x_lkS RX6 187 mX6_isLetter 1 := ⟨⟨x_i2 210 (by decide +kernel) rfl, kiX6, kcX6_isLetter, ⟨by decide +kernel, by decide +kernel, by decide +kernel⟩, by decide⟩, (x_i2 211 (by decide +kernel) rfl)⟩
theorem klX6_190 : x_lkS RX6 190 mX6_isDigit 1 := ⟨⟨x_i2 213 (by decide +kernel) rfl, kiX6, kcX6_isDigit, ⟨by decide +kernel, by decide +kernel, by decide +kernel⟩, by decide⟩, (x_i2 214 (by decide +kernel) rfl)⟩
theorem klX6_193 : x_lkV RX6 193 mX6_stepOverDigits 0 5 := ⟨⟨x_i2 216 (by decide +kernel) rfl, kiX6, kcX6_stepOverDigits, ⟨by decide +kernel, by decide +kernel, by decide +kernel⟩, by decide⟩, (x_i2 218 (by decide +kernel) rfl), (x_in 3 (by decide +kernel) rfl), (RX6, TX6, 13), rfl, rfl⟩
theorem klX6_93 : x_lkV RX6 93 mX6_lineNamed 1 5 := ⟨⟨x_i2 220 (by decide +kernel) rfl, kiX6, kcX6_lineNamed, ⟨by decide +kernel, by decide +kernel, by decide +kernel⟩, by decide⟩, (x_i2 222 (by decide +kernel) rfl), (x_in 4 (by decide +kernel) rfl), (RX6, TX6, 13), rfl, rfl⟩
theorem klX6_106 : x_lkS RX6 106 mX8_at 2 := ⟨⟨x_i2 226 (by decide +kernel) rfl, kiX8, kcX8_at, ⟨by decide +kernel, by decide +kernel, by decide +kernel⟩, by decide⟩, (x_i2 171 (by decide +kernel) rfl)⟩
theorem klX6_199 : x_lkS RX6 199 mX6_nameOf 1 := ⟨⟨x_i2 227 (by decide +kernel) rfl, kiX6, kcX6_nameOf, ⟨by decide +kernel, by decide +kernel, by decide +kernel⟩, by decide⟩, (x_i2 228 (by decide +kernel) rfl)⟩
theorem klX6_203 : x_lkV RX6 203 mX6_isToken 1 5 := ⟨⟨x_i3 6 (by decide +kernel) rfl, kiX6, kcX6_isToken, ⟨by decide +kernel, by decide +kernel, by decide +kernel⟩, by decide⟩, (x_i3 8 (by decide +kernel) rfl), (x_in 5 (by decide +kernel) rfl), (RX6, TX6, 13), rfl, rfl⟩
theorem klJ0_495 : x_lkS RJ0 495 mJ1_charAt_3b067 2 := ⟨⟨x_i3 28 (by decide +kernel) rfl, kiJ1, kcJ1_charAt_3b067, ⟨by decide +kernel, by decide +kernel, by decide +kernel⟩, by decide⟩, (x_i3 29 (by decide +kernel) rfl)⟩
theorem klJ1_9 : x_lkS RJ1 9 mJ0_checkIndex_df160 2 := ⟨⟨x_i3 31 (by decide +kernel) rfl, kiJ0, kcJ0_checkIndex_df160, ⟨by decide +kernel, by decide +kernel, by decide +kernel⟩, by decide⟩, (x_i3 32 (by decide +kernel) rfl)⟩
theorem klJ0_1059 : x_lkS RJ0 1059 mJ3_checkIndex_8e157 3 := ⟨⟨x_i3 36 (by decide +kernel) rfl, kiJ3, kcJ3_checkIndex_8e157, ⟨by decide +kernel, by decide +kernel, by decide +kernel⟩, by decide⟩, (x_i3 37 (by decide +kernel) rfl)⟩
theorem klJ0_498 : x_lkS RJ0 498 mJ2_charAt_3b067 2 := ⟨⟨x_i3 39 (by decide +kernel) rfl, kiJ2, kcJ2_charAt_3b067, ⟨by decide +kernel, by decide +kernel, by decide +kernel⟩, by decide⟩, (x_i3 40 (by decide +kernel) rfl)⟩
theorem klJ2_67 : x_lkS RJ2 67 mJ2_checkIndex_2214a 2 := ⟨⟨x_i3 42 (by decide +kernel) rfl, kiJ2, kcJ2_checkIndex_2214a, ⟨by decide +kernel, by decide +kernel, by decide +kernel⟩, by decide⟩, (x_i3 43 (by decide +kernel) rfl)⟩
theorem klJ2_48 : x_lkS RJ2 48 mJ2_length_9d52b 1 := ⟨⟨x_i3 45 (by decide +kernel) rfl, kiJ2, kcJ2_length_9d52b, ⟨by decide +kernel, by decide +kernel, by decide +kernel⟩, by decide⟩, (x_i3 46 (by decide +kernel) rfl)⟩
theorem klJ2_414 : x_lkS RJ2 414 mJ0_checkIndex_df160 2 := ⟨⟨x_i3 48 (by decide +kernel) rfl, kiJ0, kcJ0_checkIndex_df160, ⟨by decide +kernel, by decide +kernel, by decide +kernel⟩, by decide⟩, (x_i3 32 (by decide +kernel) rfl)⟩
theorem klJ2_71 : x_lkS RJ2 71 mJ2_getChar_3b067 2 := ⟨⟨x_i3 49 (by decide +kernel) rfl, kiJ2, kcJ2_getChar_3b067, ⟨by decide +kernel, by decide +kernel, by decide +kernel⟩, by decide⟩, (x_i3 50 (by decide +kernel) rfl)⟩
theorem klX6_97 : x_lkV RX6 97 mX6_readLine 1 5 := ⟨⟨x_i3 58 (by decide +kernel) rfl, kiX6, kcX6_readLine, ⟨by decide +kernel, by decide +kernel, by decide +kernel⟩, by decide⟩, (x_i3 60 (by decide +kernel) rfl), (x_in 6 (by decide +kernel) rfl), (RX6, TX6, 13), rfl, rfl⟩
theorem klX6_100 : x_lkV RX6 100 mX6_isOneTooMany 1 5 := ⟨⟨x_i3 62 (by decide +kernel) rfl, kiX6, kcX6_isOneTooMany, ⟨by decide +kernel, by decide +kernel, by decide +kernel⟩, by decide⟩, (x_i3 64 (by decide +kernel) rfl), (x_in 7 (by decide +kernel) rfl), (RX6, TX6, 13), rfl, rfl⟩
theorem klX6_83 : x_lkV RX6 83 mX6_blame 2 5 := ⟨⟨x_i3 66 (by decide +kernel) rfl, kiX6, kcX6_blame, ⟨by decide +kernel, by decide +kernel, by decide +kernel⟩, by decide⟩, (x_i3 68 (by decide +kernel) rfl), (x_in 8 (by decide +kernel) rfl), (RX6, TX6, 13), rfl, rfl⟩
theorem klX6_120 : x_lkS RX6 120 mX8_set 3 := ⟨⟨x_i3 76 (by decide +kernel) rfl, kiX8, kcX8_set, ⟨by decide +kernel, by decide +kernel, by decide +kernel⟩, by decide⟩, (x_i3 77 (by decide +kernel) rfl)⟩
theorem klX6_124 : x_lkV RX6 124 mX6_keep 2 5 := ⟨⟨x_i3 79 (by decide +kernel) rfl, kiX6, kcX6_keep, ⟨by decide +kernel, by decide +kernel, by decide +kernel⟩, by decide⟩, (x_i3 81 (by decide +kernel) rfl), (x_in 9 (by decide +kernel) rfl), (RX6, TX6, 13), rfl, rfl⟩
theorem klX6_137 : x_lkV RX6 137 mX6_keepOfLog 1 5 := ⟨⟨x_i3 83 (by decide +kernel) rfl, kiX6, kcX6_keepOfLog, ⟨by decide +kernel, by decide +kernel, by decide +kernel⟩, by decide⟩, (x_i3 85 (by decide +kernel) rfl), (x_in 10 (by decide +kernel) rfl), (RX6, TX6, 13), rfl, rfl⟩
theorem klX6_151 : x_lkV RX6 151 mX4_add 2 4 := ⟨⟨x_i3 87 (by decide +kernel) rfl, kiX4, kcX4_add, ⟨by decide +kernel, by decide +kernel, by decide +kernel⟩, by decide⟩, (x_i3 88 (by decide +kernel) rfl), (x_i3 89 (by decide +kernel) rfl), (RX4, TX4, 4), rfl, rfl⟩
theorem klX4_31 : x_lkS RX4 31 mX8_set 3 := ⟨⟨x_i3 91 (by decide +kernel) rfl, kiX8, kcX8_set, ⟨by decide +kernel, by decide +kernel, by decide +kernel⟩, by decide⟩, (x_i3 77 (by decide +kernel) rfl)⟩
theorem klX6_141 : x_lkV RX6 141 mX1_add 3 1 := ⟨⟨x_i3 92 (by decide +kernel) rfl, kiX1, kcX1_add, ⟨by decide +kernel, by decide +kernel, by decide +kernel⟩, by decide⟩, (x_i3 93 (by decide +kernel) rfl), (x_i3 94 (by decide +kernel) rfl), (RX1, TX1, 2), rfl, rfl⟩
theorem klX1_31 : x_lkS RX1 31 mX8_set 3 := ⟨⟨x_i3 96 (by decide +kernel) rfl, kiX8, kcX8_set, ⟨by decide +kernel, by decide +kernel, by decide +kernel⟩, by decide⟩, (x_i3 77 (by decide +kernel) rfl)⟩
theorem klX1_25 : x_lkS RX1 25 mX8_at 2 := ⟨⟨x_i3 97 (by decide +kernel) rfl, kiX8, kcX8_at, ⟨by decide +kernel, by decide +kernel, by decide +kernel⟩, by decide⟩, (x_i2 171 (by decide +kernel) rfl)⟩
theorem klX6_145 : x_lkV RX6 145 mX6_keepOfFair 1 5 := ⟨⟨x_i3 98 (by decide +kernel) rfl, kiX6, kcX6_keepOfFair, ⟨by decide +kernel, by decide +kernel, by decide +kernel⟩, by decide⟩, (x_i3 100 (by decide +kernel) rfl), (x_in 11 (by decide +kernel) rfl), (RX6, TX6, 13), rfl, rfl⟩
theorem klX6_162 : x_lkV RX6 162 mX2_setWrongs 3 2 := ⟨⟨x_i3 102 (by decide +kernel) rfl, kiX2, kcX2_setWrongs, ⟨by decide +kernel, by decide +kernel, by decide +kernel⟩, by decide⟩, (x_i3 103 (by decide +kernel) rfl), (x_i3 104 (by decide +kernel) rfl), (RX2, TX2, 12), rfl, rfl⟩
theorem klX2_82 : x_lkS RX2 82 mX8_set 3 := ⟨⟨x_i3 106 (by decide +kernel) rfl, kiX8, kcX8_set, ⟨by decide +kernel, by decide +kernel, by decide +kernel⟩, by decide⟩, (x_i3 77 (by decide +kernel) rfl)⟩
theorem klX6_166 : x_lkV RX6 166 mX2_setPlace 3 2 := ⟨⟨x_i3 107 (by decide +kernel) rfl, kiX2, kcX2_setPlace, ⟨by decide +kernel, by decide +kernel, by decide +kernel⟩, by decide⟩, (x_i3 108 (by decide +kernel) rfl), (x_i3 109 (by decide +kernel) rfl), (RX2, TX2, 12), rfl, rfl⟩
theorem klX6_172 : x_lkV RX6 172 mX6_keepRow 3 5 := ⟨⟨x_i3 111 (by decide +kernel) rfl, kiX6, kcX6_keepRow, ⟨by decide +kernel, by decide +kernel, by decide +kernel⟩, by decide⟩, (x_i3 113 (by decide +kernel) rfl), (x_in 12 (by decide +kernel) rfl), (RX6, TX6, 13), rfl, rfl⟩
theorem klX11_86 : x_lkV RX11 86 mX9_take 3 7 := ⟨⟨x_i3 115 (by decide +kernel) rfl, kiX9, kcX9_take, ⟨by decide +kernel, by decide +kernel, by decide +kernel⟩, by decide⟩, (x_i3 116 (by decide +kernel) rfl), (x_i3 117 (by decide +kernel) rfl), (RX9, TX9, 8), rfl, rfl⟩
theorem klX9_56 : x_lkV RX9 56 mX2_copyFrom 1 2 := ⟨⟨x_i3 119 (by decide +kernel) rfl, kiX2, kcX2_copyFrom, ⟨by decide +kernel, by decide +kernel, by decide +kernel⟩, by decide⟩, (x_i3 120 (by decide +kernel) rfl), (x_i3 121 (by decide +kernel) rfl), (RX2, TX2, 12), rfl, rfl⟩
theorem klX9_60 : x_lkV RX9 60 mX1_copyFrom 1 1 := ⟨⟨x_i3 124 (by decide +kernel) rfl, kiX1, kcX1_copyFrom, ⟨by decide +kernel, by decide +kernel, by decide +kernel⟩, by decide⟩, (x_i3 125 (by decide +kernel) rfl), (x_i3 126 (by decide +kernel) rfl), (RX1, TX1, 2), rfl, rfl⟩
theorem klX9_63 : x_lkV RX9 63 mX4_copyFrom 1 4 := ⟨⟨x_i3 129 (by decide +kernel) rfl, kiX4, kcX4_copyFrom, ⟨by decide +kernel, by decide +kernel, by decide +kernel⟩, by decide⟩, (x_i3 130 (by decide +kernel) rfl), (x_i3 131 (by decide +kernel) rfl), (RX4, TX4, 4), rfl, rfl⟩
theorem klX9_90 : x_lkS RX9 90 mJ9_max_7cf53 2 := ⟨⟨x_i3 134 (by decide +kernel) rfl, kiJ9, kcJ9_max_7cf53, ⟨by decide +kernel, by decide +kernel, by decide +kernel⟩, by decide⟩, (x_i3 135 (by decide +kernel) rfl)⟩
theorem klL_28 : x_lkV RL 28 mX11_fault 1 9 := ⟨⟨x_i3 137 (by decide +kernel) rfl, kiX11, kcX11_fault, ⟨by decide +kernel, by decide +kernel, by decide +kernel⟩, by decide⟩, (x_i3 138 (by decide +kernel) rfl), (x_i3 139 (by decide +kernel) rfl), (RX11, TX11, 8), rfl, rfl⟩
theorem klL_32 : x_lkV RL 32 mX11_fair 2 9 := ⟨⟨x_i3 141 (by decide +kernel) rfl, kiX11, kcX11_fair, ⟨by decide +kernel, by decide +kernel, by decide +kernel⟩, by decide⟩, (x_i3 142 (by decide +kernel) rfl), (x_i3 143 (by decide +kernel) rfl), (RX11, TX11, 8), rfl, rfl⟩
theorem klX11_90 : x_lkV RX11 90 mX11_fairOf 1 9 := ⟨⟨x_i3 145 (by decide +kernel) rfl, kiX11, kcX11_fairOf, ⟨by decide +kernel, by decide +kernel, by decide +kernel⟩, by decide⟩, (x_i3 147 (by decide +kernel) rfl), (x_in 13 (by decide +kernel) rfl), (RX11, TX11, 8), rfl, rfl⟩
theorem klX11_339 : x_lkV RX11 339 mX9_has 2 7 := ⟨⟨x_i3 149 (by decide +kernel) rfl, kiX9, kcX9_has, ⟨by decide +kernel, by decide +kernel, by decide +kernel⟩, by decide⟩, (x_i2 167 (by decide +kernel) rfl), (x_i2 168 (by decide +kernel) rfl), (RX9, TX9, 8), rfl, rfl⟩
theorem klX11_94 : x_lkV RX11 94 mX2_tell 1 2 := ⟨⟨x_i3 150 (by decide +kernel) rfl, kiX2, kcX2_tell, ⟨by decide +kernel, by decide +kernel, by decide +kernel⟩, by decide⟩, (x_i3 151 (by decide +kernel) rfl), (x_i3 152 (by decide +kernel) rfl), (RX2, TX2, 12), rfl, rfl⟩
theorem klX2_61 : x_lkV RX2 61 mX2_tellWhole 1 2 := ⟨⟨x_i3 154 (by decide +kernel) rfl, kiX2, kcX2_tellWhole, ⟨by decide +kernel, by decide +kernel, by decide +kernel⟩, by decide⟩, (x_i3 156 (by decide +kernel) rfl), (x_in 14 (by decide +kernel) rfl), (RX2, TX2, 12), rfl, rfl⟩
theorem klX2_65 : x_lkV RX2 65 mX2_tellSingle 2 2 := ⟨⟨x_i3 158 (by decide +kernel) rfl, kiX2, kcX2_tellSingle, ⟨by decide +kernel, by decide +kernel, by decide +kernel⟩, by decide⟩, (x_i3 160 (by decide +kernel) rfl), (x_in 15 (by decide +kernel) rfl), (RX2, TX2, 12), rfl, rfl⟩
theorem klX2_76 : x_lkS RX2 76 mX8_at 2 := ⟨⟨x_i3 162 (by decide +kernel) rfl, kiX8, kcX8_at, ⟨by decide +kernel, by decide +kernel, by decide +kernel⟩, by decide⟩, (x_i2 171 (by decide +kernel) rfl)⟩
theorem klX2_69 : x_lkV RX2 69 mX2_hasGoer 1 2 := ⟨⟨x_i3 163 (by decide +kernel) rfl, kiX2, kcX2_hasGoer, ⟨by decide +kernel, by decide +kernel, by decide +kernel⟩, by decide⟩, (x_i3 164 (by decide +kernel) rfl), (x_i3 165 (by decide +kernel) rfl), (RX2, TX2, 12), rfl, rfl⟩
theorem klX2_73 : x_lkV RX2 73 mX2_wrongsOf 2 2 := ⟨⟨x_i3 167 (by decide +kernel) rfl, kiX2, kcX2_wrongsOf, ⟨by decide +kernel, by decide +kernel, by decide +kernel⟩, by decide⟩, (x_i3 168 (by decide +kernel) rfl), (x_i3 169 (by decide +kernel) rfl), (RX2, TX2, 12), rfl, rfl⟩
theorem klL_36 : x_lkV RL 36 mX11_deed 3 9 := ⟨⟨x_i3 171 (by decide +kernel) rfl, kiX11, kcX11_deed, ⟨by decide +kernel, by decide +kernel, by decide +kernel⟩, by decide⟩, (x_i3 172 (by decide +kernel) rfl), (x_i3 173 (by decide +kernel) rfl), (RX11, TX11, 8), rfl, rfl⟩
theorem klX11_100 : x_lkV RX11 100 mX11_dayOf 1 9 := ⟨⟨x_i3 175 (by decide +kernel) rfl, kiX11, kcX11_dayOf, ⟨by decide +kernel, by decide +kernel, by decide +kernel⟩, by decide⟩, (x_i3 177 (by decide +kernel) rfl), (x_in 16 (by decide +kernel) rfl), (RX11, TX11, 8), rfl, rfl⟩
theorem klX11_104 : x_lkV RX11 104 mX1_tell 2 1 := ⟨⟨x_i3 179 (by decide +kernel) rfl, kiX1, kcX1_tell, ⟨by decide +kernel, by decide +kernel, by decide +kernel⟩, by decide⟩, (x_i3 180 (by decide +kernel) rfl), (x_i3 181 (by decide +kernel) rfl), (RX1, TX1, 2), rfl, rfl⟩
theorem klX1_35 : x_lkV RX1 35 mX1_part 2 1 := ⟨⟨x_i3 183 (by decide +kernel) rfl, kiX1, kcX1_part, ⟨by decide +kernel, by decide +kernel, by decide +kernel⟩, by decide⟩, (x_i3 184 (by decide +kernel) rfl), (x_i3 185 (by decide +kernel) rfl), (RX1, TX1, 2), rfl, rfl⟩
theorem klL_41 : x_lkV RL 41 mX11_till 2 9 := ⟨⟨x_i3 187 (by decide +kernel) rfl, kiX11, kcX11_till, ⟨by decide +kernel, by decide +kernel, by decide +kernel⟩, by decide⟩, (x_i3 188 (by decide +kernel) rfl), (x_i3 189 (by decide +kernel) rfl), (RX11, TX11, 8), rfl, rfl⟩
theorem klX11_111 : x_lkV RX11 111 mX7_run 3 6 := ⟨⟨x_i3 191 (by decide +kernel) rfl, kiX7, kcX7_run, ⟨by decide +kernel, by decide +kernel, by decide +kernel⟩, by decide⟩, (x_i3 192 (by decide +kernel) rfl), (x_i3 193 (by decide +kernel) rfl), (RX7, TX7, 15), rfl, rfl⟩
theorem klX7_22 : x_lkV RX7 22 mX7_begin 1 6 := ⟨⟨x_i3 195 (by decide +kernel) rfl, kiX7, kcX7_begin, ⟨by decide +kernel, by decide +kernel, by decide +kernel⟩, by decide⟩, (x_i3 197 (by decide +kernel) rfl), (x_in 17 (by decide +kernel) rfl), (RX7, TX7, 15), rfl, rfl⟩
theorem klX7_44 : x_lkV RX7 44 mX2_copyFrom 1 2 := ⟨⟨x_i3 199 (by decide +kernel) rfl, kiX2, kcX2_copyFrom, ⟨by decide +kernel, by decide +kernel, by decide +kernel⟩, by decide⟩, (x_i3 120 (by decide +kernel) rfl), (x_i3 121 (by decide +kernel) rfl), (RX2, TX2, 12), rfl, rfl⟩
theorem klX7_26 : x_lkV RX7 26 mX1_part 2 1 := ⟨⟨x_i3 200 (by decide +kernel) rfl, kiX1, kcX1_part, ⟨by decide +kernel, by decide +kernel, by decide +kernel⟩, by decide⟩, (x_i3 184 (by decide +kernel) rfl), (x_i3 185 (by decide +kernel) rfl), (RX1, TX1, 2), rfl, rfl⟩
theorem klX7_32 : x_lkV RX7 32 mX7_act 4 6 := ⟨⟨x_i3 201 (by decide +kernel) rfl, kiX7, kcX7_act, ⟨by decide +kernel, by decide +kernel, by decide +kernel⟩, by decide⟩, (x_i3 203 (by decide +kernel) rfl), (x_in 18 (by decide +kernel) rfl), (RX7, TX7, 15), rfl, rfl⟩
theorem klX7_100 : x_lkV RX7 100 mX7_startTune 0 6 := ⟨⟨x_i3 205 (by decide +kernel) rfl, kiX7, kcX7_startTune, ⟨by decide +kernel, by decide +kernel, by decide +kernel⟩, by decide⟩, (x_i3 207 (by decide +kernel) rfl), (x_in 19 (by decide +kernel) rfl), (RX7, TX7, 15), rfl, rfl⟩
theorem klX7_123 : x_lkV RX7 123 mX2_slantStops 1 2 := ⟨⟨x_i3 209 (by decide +kernel) rfl, kiX2, kcX2_slantStops, ⟨by decide +kernel, by decide +kernel, by decide +kernel⟩, by decide⟩, (x_i3 210 (by decide +kernel) rfl), (x_i3 211 (by decide +kernel) rfl), (RX2, TX2, 12), rfl, rfl⟩
theorem klX7_126 : x_lkV RX7 126 mX2_offenders 1 2 := ⟨⟨x_i3 213 (by decide +kernel) rfl, kiX2, kcX2_offenders, ⟨by decide +kernel, by decide +kernel, by decide +kernel⟩, by decide⟩, (x_i3 214 (by decide +kernel) rfl), (x_i3 215 (by decide +kernel) rfl), (RX2, TX2, 12), rfl, rfl⟩
theorem klX2_113 : x_lkV RX2 113 mX2_farOf 1 2 := ⟨⟨x_i3 217 (by decide +kernel) rfl, kiX2, kcX2_farOf, ⟨by decide +kernel, by decide +kernel, by decide +kernel⟩, by decide⟩, (x_i3 218 (by decide +kernel) rfl), (x_i3 219 (by decide +kernel) rfl), (RX2, TX2, 12), rfl, rfl⟩
theorem klX2_93 : x_lkV RX2 93 mX2_xOf 1 2 := ⟨⟨x_i3 221 (by decide +kernel) rfl, kiX2, kcX2_xOf, ⟨by decide +kernel, by decide +kernel, by decide +kernel⟩, by decide⟩, (x_i3 222 (by decide +kernel) rfl), (x_i3 223 (by decide +kernel) rfl), (RX2, TX2, 12), rfl, rfl⟩
theorem klX2_96 : x_lkV RX2 96 mX2_yOf 1 2 := ⟨⟨x_i3 225 (by decide +kernel) rfl, kiX2, kcX2_yOf, ⟨by decide +kernel, by decide +kernel, by decide +kernel⟩, by decide⟩, (x_i3 226 (by decide +kernel) rfl), (x_i3 227 (by decide +kernel) rfl), (RX2, TX2, 12), rfl, rfl⟩
theorem klX2_89 : x_lkS RX2 89 mX8_far 4 := ⟨⟨x_i3 229 (by decide +kernel) rfl, kiX8, kcX8_far, ⟨by decide +kernel, by decide +kernel, by decide +kernel⟩, by decide⟩, (x_i3 230 (by decide +kernel) rfl)⟩
theorem klX8_9 : x_lkS RX8 9 mJ9_abs_0f7a4 1 := ⟨⟨x_i3 232 (by decide +kernel) rfl, kiJ9, kcJ9_abs_0f7a4, ⟨by decide +kernel, by decide +kernel, by decide +kernel⟩, by decide⟩, (x_i3 233 (by decide +kernel) rfl)⟩
theorem klX2_116 : x_lkV RX2 116 mX2_earshot 3 2 := ⟨⟨x_i3 235 (by decide +kernel) rfl, kiX2, kcX2_earshot, ⟨by decide +kernel, by decide +kernel, by decide +kernel⟩, by decide⟩, (x_i3 236 (by decide +kernel) rfl), (x_i3 237 (by decide +kernel) rfl), (RX2, TX2, 12), rfl, rfl⟩
theorem klX2_99 : x_lkV RX2 99 mX2_kindOf 1 2 := ⟨⟨x_i3 239 (by decide +kernel) rfl, kiX2, kcX2_kindOf, ⟨by decide +kernel, by decide +kernel, by decide +kernel⟩, by decide⟩, (x_i4 0 (by decide +kernel) rfl), (x_i4 1 (by decide +kernel) rfl), (RX2, TX2, 12), rfl, rfl⟩
theorem klX2_102 : x_lkV RX2 102 mX2_leastOf 1 2 := ⟨⟨x_i4 3 (by decide +kernel) rfl, kiX2, kcX2_leastOf, ⟨by decide +kernel, by decide +kernel, by decide +kernel⟩, by decide⟩, (x_i4 4 (by decide +kernel) rfl), (x_i4 5 (by decide +kernel) rfl), (RX2, TX2, 12), rfl, rfl⟩
theorem klX2_105 : x_lkV RX2 105 mX2_reachOf 1 2 := ⟨⟨x_i4 7 (by decide +kernel) rfl, kiX2, kcX2_reachOf, ⟨by decide +kernel, by decide +kernel, by decide +kernel⟩, by decide⟩, (x_i4 8 (by decide +kernel) rfl), (x_i4 9 (by decide +kernel) rfl), (RX2, TX2, 12), rfl, rfl⟩
theorem klX2_108 : x_lkS RX2 108 mJ9_max_7cf53 2 := ⟨⟨x_i4 11 (by decide +kernel) rfl, kiJ9, kcJ9_max_7cf53, ⟨by decide +kernel, by decide +kernel, by decide +kernel⟩, by decide⟩, (x_i3 135 (by decide +kernel) rfl)⟩
theorem klX7_129 : x_lkS RX7 129 mJ9_max_7cf53 2 := ⟨⟨x_i4 12 (by decide +kernel) rfl, kiJ9, kcJ9_max_7cf53, ⟨by decide +kernel, by decide +kernel, by decide +kernel⟩, by decide⟩, (x_i3 135 (by decide +kernel) rfl)⟩
theorem klX7_103 : x_lkV RX7 103 mX7_straighten 0 6 := ⟨⟨x_i4 13 (by decide +kernel) rfl, kiX7, kcX7_straighten, ⟨by decide +kernel, by decide +kernel, by decide +kernel⟩, by decide⟩, (x_i4 15 (by decide +kernel) rfl), (x_in 20 (by decide +kernel) rfl), (RX7, TX7, 15), rfl, rfl⟩
theorem klX7_106 : x_lkV RX7 106 mX2_hasGoer 1 2 := ⟨⟨x_i4 17 (by decide +kernel) rfl, kiX2, kcX2_hasGoer, ⟨by decide +kernel, by decide +kernel, by decide +kernel⟩, by decide⟩, (x_i3 164 (by decide +kernel) rfl), (x_i3 165 (by decide +kernel) rfl), (RX2, TX2, 12), rfl, rfl⟩
theorem klX7_110 : x_lkV RX7 110 mX7_question 1 6 := ⟨⟨x_i4 18 (by decide +kernel) rfl, kiX7, kcX7_question, ⟨by decide +kernel, by decide +kernel, by decide +kernel⟩, by decide⟩, (x_i4 20 (by decide +kernel) rfl), (x_in 21 (by decide +kernel) rfl), (RX7, TX7, 15), rfl, rfl⟩
theorem klX7_137 : x_lkV RX7 137 mX2_isOffending 1 2 := ⟨⟨x_i4 22 (by decide +kernel) rfl, kiX2, kcX2_isOffending, ⟨by decide +kernel, by decide +kernel, by decide +kernel⟩, by decide⟩, (x_i4 23 (by decide +kernel) rfl), (x_i4 24 (by decide +kernel) rfl), (RX2, TX2, 12), rfl, rfl⟩
theorem klX7_113 : x_lkV RX7 113 mX7_bring 3 6 := ⟨⟨x_i4 26 (by decide +kernel) rfl, kiX7, kcX7_bring, ⟨by decide +kernel, by decide +kernel, by decide +kernel⟩, by decide⟩, (x_i4 28 (by decide +kernel) rfl), (x_in 22 (by decide +kernel) rfl), (RX7, TX7, 15), rfl, rfl⟩
theorem klX7_140 : x_lkV RX7 140 mX2_farFromGoer 3 2 := ⟨⟨x_i4 30 (by decide +kernel) rfl, kiX2, kcX2_farFromGoer, ⟨by decide +kernel, by decide +kernel, by decide +kernel⟩, by decide⟩, (x_i4 31 (by decide +kernel) rfl), (x_i4 32 (by decide +kernel) rfl), (RX2, TX2, 12), rfl, rfl⟩
theorem klX7_144 : x_lkV RX7 144 mX2_setPlace 3 2 := ⟨⟨x_i4 34 (by decide +kernel) rfl, kiX2, kcX2_setPlace, ⟨by decide +kernel, by decide +kernel, by decide +kernel⟩, by decide⟩, (x_i3 108 (by decide +kernel) rfl), (x_i3 109 (by decide +kernel) rfl), (RX2, TX2, 12), rfl, rfl⟩
theorem klX7_117 : x_lkV RX7 117 mX7_makeGood 3 6 := ⟨⟨x_i4 35 (by decide +kernel) rfl, kiX7, kcX7_makeGood, ⟨by decide +kernel, by decide +kernel, by decide +kernel⟩, by decide⟩, (x_i4 37 (by decide +kernel) rfl), (x_in 23 (by decide +kernel) rfl), (RX7, TX7, 15), rfl, rfl⟩
theorem klX7_148 : x_lkV RX7 148 mX2_wrongsOf 2 2 := ⟨⟨x_i4 39 (by decide +kernel) rfl, kiX2, kcX2_wrongsOf, ⟨by decide +kernel, by decide +kernel, by decide +kernel⟩, by decide⟩, (x_i3 168 (by decide +kernel) rfl), (x_i3 169 (by decide +kernel) rfl), (RX2, TX2, 12), rfl, rfl⟩
theorem klX7_151 : x_lkV RX7 151 mX2_setWrongs 3 2 := ⟨⟨x_i4 40 (by decide +kernel) rfl, kiX2, kcX2_setWrongs, ⟨by decide +kernel, by decide +kernel, by decide +kernel⟩, by decide⟩, (x_i3 103 (by decide +kernel) rfl), (x_i3 104 (by decide +kernel) rfl), (RX2, TX2, 12), rfl, rfl⟩
theorem klX7_120 : x_lkV RX7 120 mX7_offend 3 6 := ⟨⟨x_i4 41 (by decide +kernel) rfl, kiX7, kcX7_offend, ⟨by decide +kernel, by decide +kernel, by decide +kernel⟩, by decide⟩, (x_i4 43 (by decide +kernel) rfl), (x_in 24 (by decide +kernel) rfl), (RX7, TX7, 15), rfl, rfl⟩
theorem klL_45 : x_lkV RL 45 mX11_state 4 9 := ⟨⟨x_i4 45 (by decide +kernel) rfl, kiX11, kcX11_state, ⟨by decide +kernel, by decide +kernel, by decide +kernel⟩, by decide⟩, (x_i4 46 (by decide +kernel) rfl), (x_i4 47 (by decide +kernel) rfl), (RX11, TX11, 8), rfl, rfl⟩
theorem klX11_115 : x_lkV RX11 115 mX7_tell 1 6 := ⟨⟨x_i4 49 (by decide +kernel) rfl, kiX7, kcX7_tell, ⟨by decide +kernel, by decide +kernel, by decide +kernel⟩, by decide⟩, (x_i4 50 (by decide +kernel) rfl), (x_i4 51 (by decide +kernel) rfl), (RX7, TX7, 15), rfl, rfl⟩
theorem klX7_154 : x_lkV RX7 154 mX7_tellOfGoer 1 6 := ⟨⟨x_i4 53 (by decide +kernel) rfl, kiX7, kcX7_tellOfGoer, ⟨by decide +kernel, by decide +kernel, by decide +kernel⟩, by decide⟩, (x_i4 55 (by decide +kernel) rfl), (x_in 25 (by decide +kernel) rfl), (RX7, TX7, 15), rfl, rfl⟩
theorem klX7_157 : x_lkV RX7 157 mX2_xOf 1 2 := ⟨⟨x_i4 57 (by decide +kernel) rfl, kiX2, kcX2_xOf, ⟨by decide +kernel, by decide +kernel, by decide +kernel⟩, by decide⟩, (x_i3 222 (by decide +kernel) rfl), (x_i3 223 (by decide +kernel) rfl), (RX2, TX2, 12), rfl, rfl⟩
theorem klX7_160 : x_lkV RX7 160 mX2_yOf 1 2 := ⟨⟨x_i4 58 (by decide +kernel) rfl, kiX2, kcX2_yOf, ⟨by decide +kernel, by decide +kernel, by decide +kernel⟩, by decide⟩, (x_i3 226 (by decide +kernel) rfl), (x_i3 227 (by decide +kernel) rfl), (RX2, TX2, 12), rfl, rfl⟩
theorem klL_50 : x_lkV RL 50 mX11_mend 2 9 := ⟨⟨x_i4 59 (by decide +kernel) rfl, kiX11, kcX11_mend, ⟨by decide +kernel, by decide +kernel, by decide +kernel⟩, by decide⟩, (x_i4 60 (by decide +kernel) rfl), (x_i4 61 (by decide +kernel) rfl), (RX11, TX11, 8), rfl, rfl⟩
theorem klX11_116 : x_lkV RX11 116 mX2_hasGoer 1 2 := ⟨⟨x_i4 63 (by decide +kernel) rfl, kiX2, kcX2_hasGoer, ⟨by decide +kernel, by decide +kernel, by decide +kernel⟩, by decide⟩, (x_i3 164 (by decide +kernel) rfl), (x_i3 165 (by decide +kernel) rfl), (RX2, TX2, 12), rfl, rfl⟩
theorem klX11_120 : x_lkS RX11 120 mX3_toMend 2 := ⟨⟨x_i4 64 (by decide +kernel) rfl, kiX3, kcX3_toMend, ⟨by decide +kernel, by decide +kernel, by decide +kernel⟩, by decide⟩, (x_i4 65 (by decide +kernel) rfl)⟩
theorem klX3_33 : x_lkV RX3 33 mX2_kindOf 1 2 := ⟨⟨x_i4 67 (by decide +kernel) rfl, kiX2, kcX2_kindOf, ⟨by decide +kernel, by decide +kernel, by decide +kernel⟩, by decide⟩, (x_i4 0 (by decide +kernel) rfl), (x_i4 1 (by decide +kernel) rfl), (RX2, TX2, 12), rfl, rfl⟩
theorem klX3_37 : x_lkV RX3 37 mX2_farOf 1 2 := ⟨⟨x_i4 68 (by decide +kernel) rfl, kiX2, kcX2_farOf, ⟨by decide +kernel, by decide +kernel, by decide +kernel⟩, by decide⟩, (x_i3 218 (by decide +kernel) rfl), (x_i3 219 (by decide +kernel) rfl), (RX2, TX2, 12), rfl, rfl⟩
theorem klX3_40 : x_lkV RX3 40 mX2_reachOf 1 2 := ⟨⟨x_i4 69 (by decide +kernel) rfl, kiX2, kcX2_reachOf, ⟨by decide +kernel, by decide +kernel, by decide +kernel⟩, by decide⟩, (x_i4 8 (by decide +kernel) rfl), (x_i4 9 (by decide +kernel) rfl), (RX2, TX2, 12), rfl, rfl⟩
theorem klX3_43 : x_lkV RX3 43 mX2_wrongsOf 2 2 := ⟨⟨x_i4 70 (by decide +kernel) rfl, kiX2, kcX2_wrongsOf, ⟨by decide +kernel, by decide +kernel, by decide +kernel⟩, by decide⟩, (x_i3 168 (by decide +kernel) rfl), (x_i3 169 (by decide +kernel) rfl), (RX2, TX2, 12), rfl, rfl⟩
theorem klX3_47 : x_lkV RX3 47 mX2_leastOf 1 2 := ⟨⟨x_i4 71 (by decide +kernel) rfl, kiX2, kcX2_leastOf, ⟨by decide +kernel, by decide +kernel, by decide +kernel⟩, by decide⟩, (x_i4 4 (by decide +kernel) rfl), (x_i4 5 (by decide +kernel) rfl), (RX2, TX2, 12), rfl, rfl⟩
theorem klX3_50 : x_lkS RX3 50 mJ9_max_7cf53 2 := ⟨⟨x_i4 72 (by decide +kernel) rfl, kiJ9, kcJ9_max_7cf53, ⟨by decide +kernel, by decide +kernel, by decide +kernel⟩, by decide⟩, (x_i3 135 (by decide +kernel) rfl)⟩
theorem klL_54 : x_lkV RL 54 mX11_quiet 2 9 := ⟨⟨x_i4 73 (by decide +kernel) rfl, kiX11, kcX11_quiet, ⟨by decide +kernel, by decide +kernel, by decide +kernel⟩, by decide⟩, (x_i4 74 (by decide +kernel) rfl), (x_i4 75 (by decide +kernel) rfl), (RX11, TX11, 8), rfl, rfl⟩
theorem klX11_124 : x_lkV RX11 124 mX0_nearestQuiet 1 0 := ⟨⟨x_i4 77 (by decide +kernel) rfl, kiX0, kcX0_nearestQuiet, ⟨by decide +kernel, by decide +kernel, by decide +kernel⟩, by decide⟩, (x_i4 78 (by decide +kernel) rfl), (x_i4 79 (by decide +kernel) rfl), (RX0, TX0, 1), rfl, rfl⟩
theorem klX0_38 : x_lkV RX0 38 mX0_listen 1 0 := ⟨⟨x_i4 81 (by decide +kernel) rfl, kiX0, kcX0_listen, ⟨by decide +kernel, by decide +kernel, by decide +kernel⟩, by decide⟩, (x_i4 83 (by decide +kernel) rfl), (x_in 26 (by decide +kernel) rfl), (RX0, TX0, 1), rfl, rfl⟩
theorem klX0_21 : x_lkV RX0 21 mX2_earshot 3 2 := ⟨⟨x_i4 85 (by decide +kernel) rfl, kiX2, kcX2_earshot, ⟨by decide +kernel, by decide +kernel, by decide +kernel⟩, by decide⟩, (x_i3 236 (by decide +kernel) rfl), (x_i3 237 (by decide +kernel) rfl), (RX2, TX2, 12), rfl, rfl⟩
theorem klX0_25 : x_lkS RX0 25 mX8_set 3 := ⟨⟨x_i4 86 (by decide +kernel) rfl, kiX8, kcX8_set, ⟨by decide +kernel, by decide +kernel, by decide +kernel⟩, by decide⟩, (x_i3 77 (by decide +kernel) rfl)⟩
theorem klX0_46 : x_lkV RX0 46 mX2_farFromStand 2 2 := ⟨⟨x_i4 87 (by decide +kernel) rfl, kiX2, kcX2_farFromStand, ⟨by decide +kernel, by decide +kernel, by decide +kernel⟩, by decide⟩, (x_i4 88 (by decide +kernel) rfl), (x_i4 89 (by decide +kernel) rfl), (RX2, TX2, 12), rfl, rfl⟩
theorem klX0_42 : x_lkV RX0 42 mX0_heardFrom 2 0 := ⟨⟨x_i4 91 (by decide +kernel) rfl, kiX0, kcX0_heardFrom, ⟨by decide +kernel, by decide +kernel, by decide +kernel⟩, by decide⟩, (x_i4 93 (by decide +kernel) rfl), (x_in 27 (by decide +kernel) rfl), (RX0, TX0, 1), rfl, rfl⟩
theorem klX0_31 : x_lkV RX0 31 mX2_farFromGoer 3 2 := ⟨⟨x_i4 95 (by decide +kernel) rfl, kiX2, kcX2_farFromGoer, ⟨by decide +kernel, by decide +kernel, by decide +kernel⟩, by decide⟩, (x_i4 31 (by decide +kernel) rfl), (x_i4 32 (by decide +kernel) rfl), (RX2, TX2, 12), rfl, rfl⟩
theorem klX0_34 : x_lkS RX0 34 mX8_at 2 := ⟨⟨x_i4 96 (by decide +kernel) rfl, kiX8, kcX8_at, ⟨by decide +kernel, by decide +kernel, by decide +kernel⟩, by decide⟩, (x_i2 171 (by decide +kernel) rfl)⟩
theorem klX11_128 : x_lkV RX11 128 mX0_quietPlaces 1 0 := ⟨⟨x_i4 97 (by decide +kernel) rfl, kiX0, kcX0_quietPlaces, ⟨by decide +kernel, by decide +kernel, by decide +kernel⟩, by decide⟩, (x_i4 98 (by decide +kernel) rfl), (x_i4 99 (by decide +kernel) rfl), (RX0, TX0, 1), rfl, rfl⟩
theorem klL_59 : x_lkV RL 59 mX11_asking 2 9 := ⟨⟨x_i4 101 (by decide +kernel) rfl, kiX11, kcX11_asking, ⟨by decide +kernel, by decide +kernel, by decide +kernel⟩, by decide⟩, (x_i4 102 (by decide +kernel) rfl), (x_i4 103 (by decide +kernel) rfl), (RX11, TX11, 8), rfl, rfl⟩
theorem klX11_134 : x_lkS RX11 134 mX3_questionsForSure 1 := ⟨⟨x_i4 105 (by decide +kernel) rfl, kiX3, kcX3_questionsForSure, ⟨by decide +kernel, by decide +kernel, by decide +kernel⟩, by decide⟩, (x_i4 106 (by decide +kernel) rfl)⟩
theorem klX11_137 : x_lkV RX11 137 mX3_meanQuestions 2 3 := ⟨⟨x_i4 108 (by decide +kernel) rfl, kiX3, kcX3_meanQuestions, ⟨by decide +kernel, by decide +kernel, by decide +kernel⟩, by decide⟩, (x_i4 109 (by decide +kernel) rfl), (x_i4 110 (by decide +kernel) rfl), (RX3, TX3, 6), rfl, rfl⟩
theorem klX3_58 : x_lkV RX3 58 mX2_wrongsTogether 1 2 := ⟨⟨x_i4 112 (by decide +kernel) rfl, kiX2, kcX2_wrongsTogether, ⟨by decide +kernel, by decide +kernel, by decide +kernel⟩, by decide⟩, (x_i4 113 (by decide +kernel) rfl), (x_i4 114 (by decide +kernel) rfl), (RX2, TX2, 12), rfl, rfl⟩
theorem klX3_61 : x_lkS RX3 61 mX8_set 3 := ⟨⟨x_i4 116 (by decide +kernel) rfl, kiX8, kcX8_set, ⟨by decide +kernel, by decide +kernel, by decide +kernel⟩, by decide⟩, (x_i3 77 (by decide +kernel) rfl)⟩
theorem klX3_67 : x_lkV RX3 67 mX3_takeLightest 1 3 := ⟨⟨x_i4 117 (by decide +kernel) rfl, kiX3, kcX3_takeLightest, ⟨by decide +kernel, by decide +kernel, by decide +kernel⟩, by decide⟩, (x_i4 119 (by decide +kernel) rfl), (x_in 28 (by decide +kernel) rfl), (RX3, TX3, 6), rfl, rfl⟩
theorem klX3_78 : x_lkS RX3 78 mX8_at 2 := ⟨⟨x_i4 121 (by decide +kernel) rfl, kiX8, kcX8_at, ⟨by decide +kernel, by decide +kernel, by decide +kernel⟩, by decide⟩, (x_i2 171 (by decide +kernel) rfl)⟩
theorem klX3_70 : x_lkV RX3 70 mX2_allWrongs 0 2 := ⟨⟨x_i4 122 (by decide +kernel) rfl, kiX2, kcX2_allWrongs, ⟨by decide +kernel, by decide +kernel, by decide +kernel⟩, by decide⟩, (x_i4 123 (by decide +kernel) rfl), (x_i4 124 (by decide +kernel) rfl), (RX2, TX2, 12), rfl, rfl⟩
theorem klX2_86 : x_lkV RX2 86 mX2_wrongsTogether 1 2 := ⟨⟨x_i4 126 (by decide +kernel) rfl, kiX2, kcX2_wrongsTogether, ⟨by decide +kernel, by decide +kernel, by decide +kernel⟩, by decide⟩, (x_i4 113 (by decide +kernel) rfl), (x_i4 114 (by decide +kernel) rfl), (RX2, TX2, 12), rfl, rfl⟩
theorem klX3_74 : x_lkS RX3 74 mX8_part 3 := ⟨⟨x_i4 127 (by decide +kernel) rfl, kiX8, kcX8_part, ⟨by decide +kernel, by decide +kernel, by decide +kernel⟩, by decide⟩, (x_i4 128 (by decide +kernel) rfl)⟩
theorem klX8_15 : x_lkS RX8 15 mX8_divisor 2 := ⟨⟨x_i4 130 (by decide +kernel) rfl, kiX8, kcX8_divisor, ⟨by decide +kernel, by decide +kernel, by decide +kernel⟩, by decide⟩, (x_i4 131 (by decide +kernel) rfl)⟩
theorem klL_63 : x_lkV RL 63 mX11_confess 2 9 := ⟨⟨x_i4 134 (by decide +kernel) rfl, kiX11, kcX11_confess, ⟨by decide +kernel, by decide +kernel, by decide +kernel⟩, by decide⟩, (x_i4 135 (by decide +kernel) rfl), (x_i4 136 (by decide +kernel) rfl), (RX11, TX11, 8), rfl, rfl⟩
theorem klX11_141 : x_lkS RX11 141 mX5_cheapest 1 := ⟨⟨x_i4 138 (by decide +kernel) rfl, kiX5, kcX5_cheapest, ⟨by decide +kernel, by decide +kernel, by decide +kernel⟩, by decide⟩, (x_i4 139 (by decide +kernel) rfl)⟩
theorem klX5_35 : x_lkS RX5 35 mX5_needed 1 := ⟨⟨x_i4 141 (by decide +kernel) rfl, kiX5, kcX5_needed, ⟨by decide +kernel, by decide +kernel, by decide +kernel⟩, by decide⟩, (x_i4 142 (by decide +kernel) rfl)⟩
theorem klX5_28 : x_lkV RX5 28 mX2_kindOf 1 2 := ⟨⟨x_i4 144 (by decide +kernel) rfl, kiX2, kcX2_kindOf, ⟨by decide +kernel, by decide +kernel, by decide +kernel⟩, by decide⟩, (x_i4 0 (by decide +kernel) rfl), (x_i4 1 (by decide +kernel) rfl), (RX2, TX2, 12), rfl, rfl⟩
theorem klX5_32 : x_lkV RX5 32 mX2_wrongsOfKind 1 2 := ⟨⟨x_i4 145 (by decide +kernel) rfl, kiX2, kcX2_wrongsOfKind, ⟨by decide +kernel, by decide +kernel, by decide +kernel⟩, by decide⟩, (x_i4 146 (by decide +kernel) rfl), (x_i4 147 (by decide +kernel) rfl), (RX2, TX2, 12), rfl, rfl⟩
theorem klX5_41 : x_lkS RX5 41 mX5_kindsOf 2 := ⟨⟨x_i4 149 (by decide +kernel) rfl, kiX5, kcX5_kindsOf, ⟨by decide +kernel, by decide +kernel, by decide +kernel⟩, by decide⟩, (x_i4 150 (by decide +kernel) rfl)⟩
theorem klX5_19 : x_lkS RX5 19 mX8_at 2 := ⟨⟨x_i4 152 (by decide +kernel) rfl, kiX8, kcX8_at, ⟨by decide +kernel, by decide +kernel, by decide +kernel⟩, by decide⟩, (x_i2 171 (by decide +kernel) rfl)⟩
theorem klX5_45 : x_lkS RX5 45 mX5_priceOf 2 := ⟨⟨x_i4 153 (by decide +kernel) rfl, kiX5, kcX5_priceOf, ⟨by decide +kernel, by decide +kernel, by decide +kernel⟩, by decide⟩, (x_i4 154 (by decide +kernel) rfl)⟩
theorem klX11_146 : x_lkS RX11 146 mX5_priceOf 2 := ⟨⟨x_i4 156 (by decide +kernel) rfl, kiX5, kcX5_priceOf, ⟨by decide +kernel, by decide +kernel, by decide +kernel⟩, by decide⟩, (x_i4 154 (by decide +kernel) rfl)⟩
theorem klL_67 : x_lkV RL 67 mX11_route 2 9 := ⟨⟨x_i4 157 (by decide +kernel) rfl, kiX11, kcX11_route, ⟨by decide +kernel, by decide +kernel, by decide +kernel⟩, by decide⟩, (x_i4 158 (by decide +kernel) rfl), (x_i4 159 (by decide +kernel) rfl), (RX11, TX11, 8), rfl, rfl⟩
theorem klX11_149 : x_lkV RX11 149 mX10_lay 2 8 := ⟨⟨x_i4 161 (by decide +kernel) rfl, kiX10, kcX10_lay, ⟨by decide +kernel, by decide +kernel, by decide +kernel⟩, by decide⟩, (x_i4 162 (by decide +kernel) rfl), (x_i4 163 (by decide +kernel) rfl), (RX10, TX10, 8), rfl, rfl⟩
theorem klX10_30 : x_lkV RX10 30 mX10_measure 2 8 := ⟨⟨x_i4 165 (by decide +kernel) rfl, kiX10, kcX10_measure, ⟨by decide +kernel, by decide +kernel, by decide +kernel⟩, by decide⟩, (x_i4 167 (by decide +kernel) rfl), (x_in 29 (by decide +kernel) rfl), (RX10, TX10, 8), rfl, rfl⟩
theorem klX10_50 : x_lkS RX10 50 mX10_xOf 2 := ⟨⟨x_i4 169 (by decide +kernel) rfl, kiX10, kcX10_xOf, ⟨by decide +kernel, by decide +kernel, by decide +kernel⟩, by decide⟩, (x_i4 170 (by decide +kernel) rfl)⟩
theorem klX10_65 : x_lkS RX10 65 mX8_at 2 := ⟨⟨x_i4 172 (by decide +kernel) rfl, kiX8, kcX8_at, ⟨by decide +kernel, by decide +kernel, by decide +kernel⟩, by decide⟩, (x_i2 171 (by decide +kernel) rfl)⟩
theorem klX10_54 : x_lkS RX10 54 mX10_yOf 2 := ⟨⟨x_i4 173 (by decide +kernel) rfl, kiX10, kcX10_yOf, ⟨by decide +kernel, by decide +kernel, by decide +kernel⟩, by decide⟩, (x_i4 174 (by decide +kernel) rfl)⟩
theorem klX10_57 : x_lkS RX10 57 mX8_far 4 := ⟨⟨x_i4 176 (by decide +kernel) rfl, kiX8, kcX8_far, ⟨by decide +kernel, by decide +kernel, by decide +kernel⟩, by decide⟩, (x_i3 230 (by decide +kernel) rfl)⟩
theorem klX10_40 : x_lkV RX10 40 mX10_goOn 4 8 := ⟨⟨x_i4 177 (by decide +kernel) rfl, kiX10, kcX10_goOn, ⟨by decide +kernel, by decide +kernel, by decide +kernel⟩, by decide⟩, (x_i4 179 (by decide +kernel) rfl), (x_in 30 (by decide +kernel) rfl), (RX10, TX10, 8), rfl, rfl⟩
theorem klX10_75 : x_lkS RX10 75 mX8_set 3 := ⟨⟨x_i4 181 (by decide +kernel) rfl, kiX8, kcX8_set, ⟨by decide +kernel, by decide +kernel, by decide +kernel⟩, by decide⟩, (x_i3 77 (by decide +kernel) rfl)⟩
theorem klX10_47 : x_lkV RX10 47 mX10_follow 0 8 := ⟨⟨x_i4 182 (by decide +kernel) rfl, kiX10, kcX10_follow, ⟨by decide +kernel, by decide +kernel, by decide +kernel⟩, by decide⟩, (x_i4 184 (by decide +kernel) rfl), (x_in 31 (by decide +kernel) rfl), (RX10, TX10, 8), rfl, rfl⟩
theorem klX10_79 : x_lkS RX10 79 mJ9_min_7cf53 2 := ⟨⟨x_i4 186 (by decide +kernel) rfl, kiJ9, kcJ9_min_7cf53, ⟨by decide +kernel, by decide +kernel, by decide +kernel⟩, by decide⟩, (x_i4 187 (by decide +kernel) rfl)⟩
theorem klX11_157 : x_lkV RX11 157 mX10_townAt 2 8 := ⟨⟨x_i4 189 (by decide +kernel) rfl, kiX10, kcX10_townAt, ⟨by decide +kernel, by decide +kernel, by decide +kernel⟩, by decide⟩, (x_i4 190 (by decide +kernel) rfl), (x_i4 191 (by decide +kernel) rfl), (RX10, TX10, 8), rfl, rfl⟩
theorem klL_71 : x_lkV RL 71 mX11_byTurns 3 9 := ⟨⟨x_i4 193 (by decide +kernel) rfl, kiX11, kcX11_byTurns, ⟨by decide +kernel, by decide +kernel, by decide +kernel⟩, by decide⟩, (x_i4 194 (by decide +kernel) rfl), (x_i4 195 (by decide +kernel) rfl), (RX11, TX11, 8), rfl, rfl⟩
theorem klX11_160 : x_lkS RX11 160 mX0_firstTurn 2 := ⟨⟨x_i4 197 (by decide +kernel) rfl, kiX0, kcX0_firstTurn, ⟨by decide +kernel, by decide +kernel, by decide +kernel⟩, by decide⟩, (x_i4 198 (by decide +kernel) rfl)⟩
theorem klX0_59 : x_lkV RX0 59 mX2_offenders 1 2 := ⟨⟨x_i4 200 (by decide +kernel) rfl, kiX2, kcX2_offenders, ⟨by decide +kernel, by decide +kernel, by decide +kernel⟩, by decide⟩, (x_i3 214 (by decide +kernel) rfl), (x_i3 215 (by decide +kernel) rfl), (RX2, TX2, 12), rfl, rfl⟩
theorem klX0_62 : x_lkS RX0 62 mX0_wouldOffend 1 := ⟨⟨x_i4 201 (by decide +kernel) rfl, kiX0, kcX0_wouldOffend, ⟨by decide +kernel, by decide +kernel, by decide +kernel⟩, by decide⟩, (x_i4 202 (by decide +kernel) rfl)⟩
theorem klX0_66 : x_lkS RX0 66 mX0_lookAhead 4 := ⟨⟨x_i4 204 (by decide +kernel) rfl, kiX0, kcX0_lookAhead, ⟨by decide +kernel, by decide +kernel, by decide +kernel⟩, by decide⟩, (x_i4 205 (by decide +kernel) rfl)⟩
theorem klX0_70 : x_lkS RX0 70 mJ6_bitCount_0f7a4 1 := ⟨⟨x_i4 207 (by decide +kernel) rfl, kiJ6, kcJ6_bitCount_0f7a4, ⟨by decide +kernel, by decide +kernel, by decide +kernel⟩, by decide⟩, (x_i4 208 (by decide +kernel) rfl)⟩
theorem klX0_75 : x_lkS RX0 75 mJ9_min_7cf53 2 := ⟨⟨x_i4 213 (by decide +kernel) rfl, kiJ9, kcJ9_min_7cf53, ⟨by decide +kernel, by decide +kernel, by decide +kernel⟩, by decide⟩, (x_i4 187 (by decide +kernel) rfl)⟩
theorem klX0_54 : x_lkS RX0 54 mJ9_max_7cf53 2 := ⟨⟨x_i4 214 (by decide +kernel) rfl, kiJ9, kcJ9_max_7cf53, ⟨by decide +kernel, by decide +kernel, by decide +kernel⟩, by decide⟩, (x_i3 135 (by decide +kernel) rfl)⟩
theorem klX11_163 : x_lkS RX11 163 mX0_inTheEnd 2 := ⟨⟨x_i4 215 (by decide +kernel) rfl, kiX0, kcX0_inTheEnd, ⟨by decide +kernel, by decide +kernel, by decide +kernel⟩, by decide⟩, (x_i4 216 (by decide +kernel) rfl)⟩
theorem klL_76 : x_lkV RL 76 mX11_log 2 9 := ⟨⟨x_i4 218 (by decide +kernel) rfl, kiX11, kcX11_log, ⟨by decide +kernel, by decide +kernel, by decide +kernel⟩, by decide⟩, (x_i4 219 (by decide +kernel) rfl), (x_i4 220 (by decide +kernel) rfl), (RX11, TX11, 8), rfl, rfl⟩
theorem klX11_166 : x_lkV RX11 166 mX11_ledgerOf 1 9 := ⟨⟨x_i4 222 (by decide +kernel) rfl, kiX11, kcX11_ledgerOf, ⟨by decide +kernel, by decide +kernel, by decide +kernel⟩, by decide⟩, (x_i4 224 (by decide +kernel) rfl), (x_in 32 (by decide +kernel) rfl), (RX11, TX11, 8), rfl, rfl⟩
theorem klX11_170 : x_lkV RX11 170 mX4_tell 1 4 := ⟨⟨x_i4 226 (by decide +kernel) rfl, kiX4, kcX4_tell, ⟨by decide +kernel, by decide +kernel, by decide +kernel⟩, by decide⟩, (x_i4 227 (by decide +kernel) rfl), (x_i4 228 (by decide +kernel) rfl), (RX4, TX4, 4), rfl, rfl⟩
theorem klX4_37 : x_lkS RX4 37 mX8_at 2 := ⟨⟨x_i4 230 (by decide +kernel) rfl, kiX8, kcX8_at, ⟨by decide +kernel, by decide +kernel, by decide +kernel⟩, by decide⟩, (x_i2 171 (by decide +kernel) rfl)⟩
theorem klL_80 : x_lkV RL 80 mX11_fits 2 9 := ⟨⟨x_i4 231 (by decide +kernel) rfl, kiX11, kcX11_fits, ⟨by decide +kernel, by decide +kernel, by decide +kernel⟩, by decide⟩, (x_i4 232 (by decide +kernel) rfl), (x_i4 233 (by decide +kernel) rfl), (RX11, TX11, 8), rfl, rfl⟩
theorem klX11_173 : x_lkV RX11 173 mX4_fitting 0 4 := ⟨⟨x_i4 235 (by decide +kernel) rfl, kiX4, kcX4_fitting, ⟨by decide +kernel, by decide +kernel, by decide +kernel⟩, by decide⟩, (x_i4 236 (by decide +kernel) rfl), (x_i4 237 (by decide +kernel) rfl), (RX4, TX4, 4), rfl, rfl⟩
theorem klX4_45 : x_lkV RX4 45 mX4_liesBy 1 4 := ⟨⟨x_i4 239 (by decide +kernel) rfl, kiX4, kcX4_liesBy, ⟨by decide +kernel, by decide +kernel, by decide +kernel⟩, by decide⟩, (x_i5 1 (by decide +kernel) rfl), (x_in 33 (by decide +kernel) rfl), (RX4, TX4, 4), rfl, rfl⟩
theorem klX4_41 : x_lkV RX4 41 mX4_isLie 2 4 := ⟨⟨x_i5 3 (by decide +kernel) rfl, kiX4, kcX4_isLie, ⟨by decide +kernel, by decide +kernel, by decide +kernel⟩, by decide⟩, (x_i5 5 (by decide +kernel) rfl), (x_in 34 (by decide +kernel) rfl), (RX4, TX4, 4), rfl, rfl⟩
theorem klX11_177 : x_lkS RX11 177 mJ13_bitCount_95d88 1 := ⟨⟨x_i5 7 (by decide +kernel) rfl, kiJ13, kcJ13_bitCount_95d88, ⟨by decide +kernel, by decide +kernel, by decide +kernel⟩, by decide⟩, (x_i5 8 (by decide +kernel) rfl)⟩
theorem klX11_183 : x_lkS RX11 183 mX4_bestQuestion 1 := ⟨⟨x_i5 13 (by decide +kernel) rfl, kiX4, kcX4_bestQuestion, ⟨by decide +kernel, by decide +kernel, by decide +kernel⟩, by decide⟩, (x_i5 14 (by decide +kernel) rfl)⟩
theorem klX4_62 : x_lkS RX4 62 mJ13_bitCount_95d88 1 := ⟨⟨x_i5 16 (by decide +kernel) rfl, kiJ13, kcJ13_bitCount_95d88, ⟨by decide +kernel, by decide +kernel, by decide +kernel⟩, by decide⟩, (x_i5 8 (by decide +kernel) rfl)⟩
theorem klX4_68 : x_lkS RX4 68 mX4_stopping 2 := ⟨⟨x_i5 17 (by decide +kernel) rfl, kiX4, kcX4_stopping, ⟨by decide +kernel, by decide +kernel, by decide +kernel⟩, by decide⟩, (x_i5 18 (by decide +kernel) rfl)⟩
theorem klX4_58 : x_lkS RX4 58 mX4_isIn 2 := ⟨⟨x_i5 20 (by decide +kernel) rfl, kiX4, kcX4_isIn, ⟨by decide +kernel, by decide +kernel, by decide +kernel⟩, by decide⟩, (x_i5 21 (by decide +kernel) rfl)⟩
theorem klX4_72 : x_lkS RX4 72 mJ9_max_7cf53 2 := ⟨⟨x_i5 23 (by decide +kernel) rfl, kiJ9, kcJ9_max_7cf53, ⟨by decide +kernel, by decide +kernel, by decide +kernel⟩, by decide⟩, (x_i3 135 (by decide +kernel) rfl)⟩
theorem klX11_186 : x_lkS RX11 186 mX4_sure 2 := ⟨⟨x_i5 24 (by decide +kernel) rfl, kiX4, kcX4_sure, ⟨by decide +kernel, by decide +kernel, by decide +kernel⟩, by decide⟩, (x_i5 25 (by decide +kernel) rfl)⟩
theorem klX11_190 : x_lkS RX11 190 mX4_heartAt 2 := ⟨⟨x_i5 27 (by decide +kernel) rfl, kiX4, kcX4_heartAt, ⟨by decide +kernel, by decide +kernel, by decide +kernel⟩, by decide⟩, (x_i5 28 (by decide +kernel) rfl)⟩
theorem klL_84 : x_lkV RL 84 mX11_drawn 4 9 := ⟨⟨x_i5 30 (by decide +kernel) rfl, kiX11, kcX11_drawn, ⟨by decide +kernel, by decide +kernel, by decide +kernel⟩, by decide⟩, (x_i5 31 (by decide +kernel) rfl), (x_i5 32 (by decide +kernel) rfl), (RX11, TX11, 8), rfl, rfl⟩
theorem klX11_193 : x_lkV RX11 193 mX7_runByLot 3 6 := ⟨⟨x_i5 34 (by decide +kernel) rfl, kiX7, kcX7_runByLot, ⟨by decide +kernel, by decide +kernel, by decide +kernel⟩, by decide⟩, (x_i5 35 (by decide +kernel) rfl), (x_i5 36 (by decide +kernel) rfl), (RX7, TX7, 15), rfl, rfl⟩
theorem klX7_40 : x_lkV RX7 40 mX7_drawDeed 0 6 := ⟨⟨x_i5 38 (by decide +kernel) rfl, kiX7, kcX7_drawDeed, ⟨by decide +kernel, by decide +kernel, by decide +kernel⟩, by decide⟩, (x_i5 40 (by decide +kernel) rfl), (x_in 35 (by decide +kernel) rfl), (RX7, TX7, 15), rfl, rfl⟩
theorem klX7_87 : x_lkV RX7 87 mX7_drawBelow 1 6 := ⟨⟨x_i5 44 (by decide +kernel) rfl, kiX7, kcX7_drawBelow, ⟨by decide +kernel, by decide +kernel, by decide +kernel⟩, by decide⟩, (x_i5 46 (by decide +kernel) rfl), (x_in 36 (by decide +kernel) rfl), (RX7, TX7, 15), rfl, rfl⟩
theorem klX7_91 : x_lkS RX7 91 mX8_at 2 := ⟨⟨x_i5 49 (by decide +kernel) rfl, kiX8, kcX8_at, ⟨by decide +kernel, by decide +kernel, by decide +kernel⟩, by decide⟩, (x_i2 171 (by decide +kernel) rfl)⟩
theorem klL_88 : x_lkV RL 88 mX11_upright 2 9 := ⟨⟨x_i5 50 (by decide +kernel) rfl, kiX11, kcX11_upright, ⟨by decide +kernel, by decide +kernel, by decide +kernel⟩, by decide⟩, (x_i5 51 (by decide +kernel) rfl), (x_i5 52 (by decide +kernel) rfl), (RX11, TX11, 8), rfl, rfl⟩
theorem klX11_197 : x_lkS RX11 197 mX3_withoutWrongs 1 := ⟨⟨x_i5 54 (by decide +kernel) rfl, kiX3, kcX3_withoutWrongs, ⟨by decide +kernel, by decide +kernel, by decide +kernel⟩, by decide⟩, (x_i5 55 (by decide +kernel) rfl)⟩
theorem klX11_200 : x_lkS RX11 200 mX3_worst 1 := ⟨⟨x_i5 57 (by decide +kernel) rfl, kiX3, kcX3_worst, ⟨by decide +kernel, by decide +kernel, by decide +kernel⟩, by decide⟩, (x_i5 58 (by decide +kernel) rfl)⟩
theorem klX11_203 : x_lkS RX11 203 mX3_mostKind 1 := ⟨⟨x_i5 60 (by decide +kernel) rfl, kiX3, kcX3_mostKind, ⟨by decide +kernel, by decide +kernel, by decide +kernel⟩, by decide⟩, (x_i5 61 (by decide +kernel) rfl)⟩
theorem klX3_82 : x_lkV RX3 82 mX2_wrongsOfKind 1 2 := ⟨⟨x_i5 63 (by decide +kernel) rfl, kiX2, kcX2_wrongsOfKind, ⟨by decide +kernel, by decide +kernel, by decide +kernel⟩, by decide⟩, (x_i4 146 (by decide +kernel) rfl), (x_i4 147 (by decide +kernel) rfl), (RX2, TX2, 12), rfl, rfl⟩
theorem klX11_206 : x_lkV RX11 206 mX2_heard 0 2 := ⟨⟨x_i5 64 (by decide +kernel) rfl, kiX2, kcX2_heard, ⟨by decide +kernel, by decide +kernel, by decide +kernel⟩, by decide⟩, (x_i5 65 (by decide +kernel) rfl), (x_i5 66 (by decide +kernel) rfl), (RX2, TX2, 12), rfl, rfl⟩
theorem klX2_131 : x_lkV RX2 131 mX2_within 1 2 := ⟨⟨x_i5 68 (by decide +kernel) rfl, kiX2, kcX2_within, ⟨by decide +kernel, by decide +kernel, by decide +kernel⟩, by decide⟩, (x_i5 69 (by decide +kernel) rfl), (x_i5 70 (by decide +kernel) rfl), (RX2, TX2, 12), rfl, rfl⟩
theorem klX11_210 : x_lkV RX11 210 mX2_idleMinds 0 2 := ⟨⟨x_i5 72 (by decide +kernel) rfl, kiX2, kcX2_idleMinds, ⟨by decide +kernel, by decide +kernel, by decide +kernel⟩, by decide⟩, (x_i5 73 (by decide +kernel) rfl), (x_i5 74 (by decide +kernel) rfl), (RX2, TX2, 12), rfl, rfl⟩
theorem klX2_120 : x_lkV RX2 120 mX2_offenders 1 2 := ⟨⟨x_i5 76 (by decide +kernel) rfl, kiX2, kcX2_offenders, ⟨by decide +kernel, by decide +kernel, by decide +kernel⟩, by decide⟩, (x_i3 214 (by decide +kernel) rfl), (x_i3 215 (by decide +kernel) rfl), (RX2, TX2, 12), rfl, rfl⟩
theorem klX11_213 : x_lkV RX11 213 mX3_tree 1 3 := ⟨⟨x_i5 77 (by decide +kernel) rfl, kiX3, kcX3_tree, ⟨by decide +kernel, by decide +kernel, by decide +kernel⟩, by decide⟩, (x_i5 78 (by decide +kernel) rfl), (x_i5 79 (by decide +kernel) rfl), (RX3, TX3, 6), rfl, rfl⟩
theorem klX3_85 : x_lkV RX3 85 mX3_nearestApart 2 3 := ⟨⟨x_i5 81 (by decide +kernel) rfl, kiX3, kcX3_nearestApart, ⟨by decide +kernel, by decide +kernel, by decide +kernel⟩, by decide⟩, (x_i5 83 (by decide +kernel) rfl), (x_in 37 (by decide +kernel) rfl), (RX3, TX3, 6), rfl, rfl⟩
theorem klX3_88 : x_lkS RX3 88 mX3_between 3 := ⟨⟨x_i5 85 (by decide +kernel) rfl, kiX3, kcX3_between, ⟨by decide +kernel, by decide +kernel, by decide +kernel⟩, by decide⟩, (x_i5 86 (by decide +kernel) rfl)⟩
theorem klX3_95 : x_lkV RX3 95 mX2_xOf 1 2 := ⟨⟨x_i5 88 (by decide +kernel) rfl, kiX2, kcX2_xOf, ⟨by decide +kernel, by decide +kernel, by decide +kernel⟩, by decide⟩, (x_i3 222 (by decide +kernel) rfl), (x_i3 223 (by decide +kernel) rfl), (RX2, TX2, 12), rfl, rfl⟩
theorem klX3_98 : x_lkV RX3 98 mX2_yOf 1 2 := ⟨⟨x_i5 89 (by decide +kernel) rfl, kiX2, kcX2_yOf, ⟨by decide +kernel, by decide +kernel, by decide +kernel⟩, by decide⟩, (x_i3 226 (by decide +kernel) rfl), (x_i3 227 (by decide +kernel) rfl), (RX2, TX2, 12), rfl, rfl⟩
theorem klX3_101 : x_lkV RX3 101 mX2_farFromGoer 3 2 := ⟨⟨x_i5 90 (by decide +kernel) rfl, kiX2, kcX2_farFromGoer, ⟨by decide +kernel, by decide +kernel, by decide +kernel⟩, by decide⟩, (x_i4 31 (by decide +kernel) rfl), (x_i4 32 (by decide +kernel) rfl), (RX2, TX2, 12), rfl, rfl⟩
theorem klX3_92 : x_lkS RX3 92 mJ9_min_7cf53 2 := ⟨⟨x_i5 91 (by decide +kernel) rfl, kiJ9, kcJ9_min_7cf53, ⟨by decide +kernel, by decide +kernel, by decide +kernel⟩, by decide⟩, (x_i4 187 (by decide +kernel) rfl)⟩
theorem klX11_216 : x_lkS RX11 216 mX3_nearestTwo 1 := ⟨⟨x_i5 92 (by decide +kernel) rfl, kiX3, kcX3_nearestTwo, ⟨by decide +kernel, by decide +kernel, by decide +kernel⟩, by decide⟩, (x_i5 93 (by decide +kernel) rfl)⟩
theorem klX11_219 : x_lkS RX11 219 mX3_betweenNearest 1 := ⟨⟨x_i5 95 (by decide +kernel) rfl, kiX3, kcX3_betweenNearest, ⟨by decide +kernel, by decide +kernel, by decide +kernel⟩, by decide⟩, (x_i5 96 (by decide +kernel) rfl)⟩
theorem klX3_105 : x_lkS RX3 105 mX3_nearestTwo 1 := ⟨⟨x_i5 98 (by decide +kernel) rfl, kiX3, kcX3_nearestTwo, ⟨by decide +kernel, by decide +kernel, by decide +kernel⟩, by decide⟩, (x_i5 93 (by decide +kernel) rfl)⟩
theorem klX11_222 : x_lkV RX11 222 mX2_broadest 0 2 := ⟨⟨x_i5 99 (by decide +kernel) rfl, kiX2, kcX2_broadest, ⟨by decide +kernel, by decide +kernel, by decide +kernel⟩, by decide⟩, (x_i5 100 (by decide +kernel) rfl), (x_i5 101 (by decide +kernel) rfl), (RX2, TX2, 12), rfl, rfl⟩
theorem klX2_128 : x_lkV RX2 128 mX2_offendersBy 1 2 := ⟨⟨x_i5 103 (by decide +kernel) rfl, kiX2, kcX2_offendersBy, ⟨by decide +kernel, by decide +kernel, by decide +kernel⟩, by decide⟩, (x_i5 104 (by decide +kernel) rfl), (x_i5 105 (by decide +kernel) rfl), (RX2, TX2, 12), rfl, rfl⟩
theorem klX2_123 : x_lkS RX2 123 mJ6_bitCount_0f7a4 1 := ⟨⟨x_i5 107 (by decide +kernel) rfl, kiJ6, kcJ6_bitCount_0f7a4, ⟨by decide +kernel, by decide +kernel, by decide +kernel⟩, by decide⟩, (x_i4 208 (by decide +kernel) rfl)⟩
theorem klX11_228 : x_lkV RX11 228 mX2_offendersBy 1 2 := ⟨⟨x_i5 108 (by decide +kernel) rfl, kiX2, kcX2_offendersBy, ⟨by decide +kernel, by decide +kernel, by decide +kernel⟩, by decide⟩, (x_i5 104 (by decide +kernel) rfl), (x_i5 105 (by decide +kernel) rfl), (RX2, TX2, 12), rfl, rfl⟩
theorem klL_92 : x_lkV RL 92 mX11_share 3 9 := ⟨⟨x_i5 109 (by decide +kernel) rfl, kiX11, kcX11_share, ⟨by decide +kernel, by decide +kernel, by decide +kernel⟩, by decide⟩, (x_i5 110 (by decide +kernel) rfl), (x_i5 111 (by decide +kernel) rfl), (RX11, TX11, 8), rfl, rfl⟩
theorem klX11_231 : x_lkV RX11 231 mX2_allWrongs 0 2 := ⟨⟨x_i5 113 (by decide +kernel) rfl, kiX2, kcX2_allWrongs, ⟨by decide +kernel, by decide +kernel, by decide +kernel⟩, by decide⟩, (x_i4 123 (by decide +kernel) rfl), (x_i4 124 (by decide +kernel) rfl), (RX2, TX2, 12), rfl, rfl⟩
theorem klX11_234 : x_lkV RX11 234 mX2_wrongsTogether 1 2 := ⟨⟨x_i5 114 (by decide +kernel) rfl, kiX2, kcX2_wrongsTogether, ⟨by decide +kernel, by decide +kernel, by decide +kernel⟩, by decide⟩, (x_i4 113 (by decide +kernel) rfl), (x_i4 114 (by decide +kernel) rfl), (RX2, TX2, 12), rfl, rfl⟩
theorem klX11_237 : x_lkS RX11 237 mX8_part 3 := ⟨⟨x_i5 115 (by decide +kernel) rfl, kiX8, kcX8_part, ⟨by decide +kernel, by decide +kernel, by decide +kernel⟩, by decide⟩, (x_i4 128 (by decide +kernel) rfl)⟩
theorem klL_96 : x_lkV RL 96 mX11_walk 3 9 := ⟨⟨x_i5 116 (by decide +kernel) rfl, kiX11, kcX11_walk, ⟨by decide +kernel, by decide +kernel, by decide +kernel⟩, by decide⟩, (x_i5 117 (by decide +kernel) rfl), (x_i5 118 (by decide +kernel) rfl), (RX11, TX11, 8), rfl, rfl⟩
theorem klX11_243 : x_lkS RX11 243 mX0_refuge 2 := ⟨⟨x_i5 120 (by decide +kernel) rfl, kiX0, kcX0_refuge, ⟨by decide +kernel, by decide +kernel, by decide +kernel⟩, by decide⟩, (x_i5 121 (by decide +kernel) rfl)⟩
theorem klX11_246 : x_lkV RX11 246 mX2_farFromGoer 3 2 := ⟨⟨x_i5 123 (by decide +kernel) rfl, kiX2, kcX2_farFromGoer, ⟨by decide +kernel, by decide +kernel, by decide +kernel⟩, by decide⟩, (x_i4 31 (by decide +kernel) rfl), (x_i4 32 (by decide +kernel) rfl), (RX2, TX2, 12), rfl, rfl⟩
theorem klL_100 : x_lkV RL 100 mX11_forget 2 9 := ⟨⟨x_i5 124 (by decide +kernel) rfl, kiX11, kcX11_forget, ⟨by decide +kernel, by decide +kernel, by decide +kernel⟩, by decide⟩, (x_i5 125 (by decide +kernel) rfl), (x_i5 126 (by decide +kernel) rfl), (RX11, TX11, 8), rfl, rfl⟩
theorem klX11_250 : x_lkV RX11 250 mX2_offendedMinds 0 2 := ⟨⟨x_i5 128 (by decide +kernel) rfl, kiX2, kcX2_offendedMinds, ⟨by decide +kernel, by decide +kernel, by decide +kernel⟩, by decide⟩, (x_i5 129 (by decide +kernel) rfl), (x_i5 130 (by decide +kernel) rfl), (RX2, TX2, 12), rfl, rfl⟩
theorem klX11_253 : x_lkS RX11 253 mJ6_bitCount_0f7a4 1 := ⟨⟨x_i5 132 (by decide +kernel) rfl, kiJ6, kcJ6_bitCount_0f7a4, ⟨by decide +kernel, by decide +kernel, by decide +kernel⟩, by decide⟩, (x_i4 208 (by decide +kernel) rfl)⟩
theorem klL_104 : x_lkV RL 104 mX11_round 2 9 := ⟨⟨x_i5 133 (by decide +kernel) rfl, kiX11, kcX11_round, ⟨by decide +kernel, by decide +kernel, by decide +kernel⟩, by decide⟩, (x_i5 134 (by decide +kernel) rfl), (x_i5 135 (by decide +kernel) rfl), (RX11, TX11, 8), rfl, rfl⟩
theorem klL_108 : x_lkV RL 108 mX11_centre 2 9 := ⟨⟨x_i5 137 (by decide +kernel) rfl, kiX11, kcX11_centre, ⟨by decide +kernel, by decide +kernel, by decide +kernel⟩, by decide⟩, (x_i5 138 (by decide +kernel) rfl), (x_i5 139 (by decide +kernel) rfl), (RX11, TX11, 8), rfl, rfl⟩
theorem klX11_257 : x_lkS RX11 257 mX3_middle 1 := ⟨⟨x_i5 141 (by decide +kernel) rfl, kiX3, kcX3_middle, ⟨by decide +kernel, by decide +kernel, by decide +kernel⟩, by decide⟩, (x_i5 142 (by decide +kernel) rfl)⟩
theorem klX3_109 : x_lkS RX3 109 mX3_farToAll 2 := ⟨⟨x_i5 144 (by decide +kernel) rfl, kiX3, kcX3_farToAll, ⟨by decide +kernel, by decide +kernel, by decide +kernel⟩, by decide⟩, (x_i5 145 (by decide +kernel) rfl)⟩
theorem klX11_260 : x_lkS RX11 260 mX3_farToAll 2 := ⟨⟨x_i5 147 (by decide +kernel) rfl, kiX3, kcX3_farToAll, ⟨by decide +kernel, by decide +kernel, by decide +kernel⟩, by decide⟩, (x_i5 145 (by decide +kernel) rfl)⟩
theorem klX11_263 : x_lkV RX11 263 mX0_worstPlace 1 0 := ⟨⟨x_i5 148 (by decide +kernel) rfl, kiX0, kcX0_worstPlace, ⟨by decide +kernel, by decide +kernel, by decide +kernel⟩, by decide⟩, (x_i5 149 (by decide +kernel) rfl), (x_i5 150 (by decide +kernel) rfl), (RX0, TX0, 1), rfl, rfl⟩
theorem klX11_266 : x_lkV RX11 266 mX0_offendersAt 2 0 := ⟨⟨x_i5 152 (by decide +kernel) rfl, kiX0, kcX0_offendersAt, ⟨by decide +kernel, by decide +kernel, by decide +kernel⟩, by decide⟩, (x_i5 153 (by decide +kernel) rfl), (x_i5 154 (by decide +kernel) rfl), (RX0, TX0, 1), rfl, rfl⟩
theorem klX11_269 : x_lkS RX11 269 mX3_twins 1 := ⟨⟨x_i5 156 (by decide +kernel) rfl, kiX3, kcX3_twins, ⟨by decide +kernel, by decide +kernel, by decide +kernel⟩, by decide⟩, (x_i5 157 (by decide +kernel) rfl)⟩
theorem klX3_113 : x_lkS RX3 113 mX3_matches 3 := ⟨⟨x_i5 159 (by decide +kernel) rfl, kiX3, kcX3_matches, ⟨by decide +kernel, by decide +kernel, by decide +kernel⟩, by decide⟩, (x_i5 160 (by decide +kernel) rfl)⟩
theorem klX11_272 : x_lkS RX11 272 mX0_grace 1 := ⟨⟨x_i5 162 (by decide +kernel) rfl, kiX0, kcX0_grace, ⟨by decide +kernel, by decide +kernel, by decide +kernel⟩, by decide⟩, (x_i5 163 (by decide +kernel) rfl)⟩
theorem klX0_50 : x_lkV RX0 50 mX2_farOf 1 2 := ⟨⟨x_i5 165 (by decide +kernel) rfl, kiX2, kcX2_farOf, ⟨by decide +kernel, by decide +kernel, by decide +kernel⟩, by decide⟩, (x_i3 218 (by decide +kernel) rfl), (x_i3 219 (by decide +kernel) rfl), (RX2, TX2, 12), rfl, rfl⟩
theorem klX11_275 : x_lkS RX11 275 mX0_deafness 1 := ⟨⟨x_i5 166 (by decide +kernel) rfl, kiX0, kcX0_deafness, ⟨by decide +kernel, by decide +kernel, by decide +kernel⟩, by decide⟩, (x_i5 167 (by decide +kernel) rfl)⟩
theorem klL_112 : x_lkV RL 112 mX11_ring 2 9 := ⟨⟨x_i5 169 (by decide +kernel) rfl, kiX11, kcX11_ring, ⟨by decide +kernel, by decide +kernel, by decide +kernel⟩, by decide⟩, (x_i5 170 (by decide +kernel) rfl), (x_i5 171 (by decide +kernel) rfl), (RX11, TX11, 8), rfl, rfl⟩
theorem klX11_278 : x_lkV RX11 278 mX2_within 1 2 := ⟨⟨x_i5 173 (by decide +kernel) rfl, kiX2, kcX2_within, ⟨by decide +kernel, by decide +kernel, by decide +kernel⟩, by decide⟩, (x_i5 69 (by decide +kernel) rfl), (x_i5 70 (by decide +kernel) rfl), (RX2, TX2, 12), rfl, rfl⟩
theorem klL_116 : x_lkV RL 116 mX11_ladder 2 9 := ⟨⟨x_i5 174 (by decide +kernel) rfl, kiX11, kcX11_ladder, ⟨by decide +kernel, by decide +kernel, by decide +kernel⟩, by decide⟩, (x_i5 175 (by decide +kernel) rfl), (x_i5 176 (by decide +kernel) rfl), (RX11, TX11, 8), rfl, rfl⟩
theorem klX11_281 : x_lkV RX11 281 mX3_climb 1 3 := ⟨⟨x_i5 178 (by decide +kernel) rfl, kiX3, kcX3_climb, ⟨by decide +kernel, by decide +kernel, by decide +kernel⟩, by decide⟩, (x_i5 179 (by decide +kernel) rfl), (x_i5 180 (by decide +kernel) rfl), (RX3, TX3, 6), rfl, rfl⟩
theorem klX3_117 : x_lkV RX3 117 mX3_compare 1 3 := ⟨⟨x_i5 182 (by decide +kernel) rfl, kiX3, kcX3_compare, ⟨by decide +kernel, by decide +kernel, by decide +kernel⟩, by decide⟩, (x_i5 184 (by decide +kernel) rfl), (x_in 38 (by decide +kernel) rfl), (RX3, TX3, 6), rfl, rfl⟩
theorem klX3_121 : x_lkV RX3 121 mX3_hasAbove 3 3 := ⟨⟨x_i5 186 (by decide +kernel) rfl, kiX3, kcX3_hasAbove, ⟨by decide +kernel, by decide +kernel, by decide +kernel⟩, by decide⟩, (x_i5 188 (by decide +kernel) rfl), (x_in 39 (by decide +kernel) rfl), (RX3, TX3, 6), rfl, rfl⟩
theorem klX3_128 : x_lkV RX3 128 mX3_firstOfHeight 3 3 := ⟨⟨x_i5 190 (by decide +kernel) rfl, kiX3, kcX3_firstOfHeight, ⟨by decide +kernel, by decide +kernel, by decide +kernel⟩, by decide⟩, (x_i5 192 (by decide +kernel) rfl), (x_in 40 (by decide +kernel) rfl), (RX3, TX3, 6), rfl, rfl⟩
theorem klX11_288 : x_lkV RX11 288 mX3_rungAt 1 3 := ⟨⟨x_i5 194 (by decide +kernel) rfl, kiX3, kcX3_rungAt, ⟨by decide +kernel, by decide +kernel, by decide +kernel⟩, by decide⟩, (x_i5 195 (by decide +kernel) rfl), (x_i5 196 (by decide +kernel) rfl), (RX3, TX3, 6), rfl, rfl⟩
theorem klL_120 : x_lkV RL 120 mX11_next 2 9 := ⟨⟨x_i5 198 (by decide +kernel) rfl, kiX11, kcX11_next, ⟨by decide +kernel, by decide +kernel, by decide +kernel⟩, by decide⟩, (x_i5 199 (by decide +kernel) rfl), (x_i5 200 (by decide +kernel) rfl), (RX11, TX11, 8), rfl, rfl⟩
theorem klX11_291 : x_lkV RX11 291 mX2_playingAfter 1 2 := ⟨⟨x_i5 202 (by decide +kernel) rfl, kiX2, kcX2_playingAfter, ⟨by decide +kernel, by decide +kernel, by decide +kernel⟩, by decide⟩, (x_i5 203 (by decide +kernel) rfl), (x_i5 204 (by decide +kernel) rfl), (RX2, TX2, 12), rfl, rfl⟩
theorem klX2_134 : x_lkV RX2 134 mX2_slantStops 1 2 := ⟨⟨x_i5 206 (by decide +kernel) rfl, kiX2, kcX2_slantStops, ⟨by decide +kernel, by decide +kernel, by decide +kernel⟩, by decide⟩, (x_i3 210 (by decide +kernel) rfl), (x_i3 211 (by decide +kernel) rfl), (RX2, TX2, 12), rfl, rfl⟩
theorem klL_124 : x_lkV RL 124 mX11_purse 3 9 := ⟨⟨x_i5 207 (by decide +kernel) rfl, kiX11, kcX11_purse, ⟨by decide +kernel, by decide +kernel, by decide +kernel⟩, by decide⟩, (x_i5 208 (by decide +kernel) rfl), (x_i5 209 (by decide +kernel) rfl), (RX11, TX11, 8), rfl, rfl⟩
theorem klX11_294 : x_lkS RX11 294 mX5_broadest 2 := ⟨⟨x_i5 211 (by decide +kernel) rfl, kiX5, kcX5_broadest, ⟨by decide +kernel, by decide +kernel, by decide +kernel⟩, by decide⟩, (x_i5 212 (by decide +kernel) rfl)⟩
theorem klX5_48 : x_lkS RX5 48 mJ6_bitCount_0f7a4 1 := ⟨⟨x_i5 214 (by decide +kernel) rfl, kiJ6, kcJ6_bitCount_0f7a4, ⟨by decide +kernel, by decide +kernel, by decide +kernel⟩, by decide⟩, (x_i4 208 (by decide +kernel) rfl)⟩
theorem klX11_296 : x_lkS RX11 296 mX5_kindsOf 2 := ⟨⟨x_i5 215 (by decide +kernel) rfl, kiX5, kcX5_kindsOf, ⟨by decide +kernel, by decide +kernel, by decide +kernel⟩, by decide⟩, (x_i4 150 (by decide +kernel) rfl)⟩
theorem klL_128 : x_lkV RL 128 mX11_calm 3 9 := ⟨⟨x_i5 216 (by decide +kernel) rfl, kiX11, kcX11_calm, ⟨by decide +kernel, by decide +kernel, by decide +kernel⟩, by decide⟩, (x_i5 217 (by decide +kernel) rfl), (x_i5 218 (by decide +kernel) rfl), (RX11, TX11, 8), rfl, rfl⟩
theorem klX11_301 : x_lkV RX11 301 mX2_offenders 1 2 := ⟨⟨x_i5 221 (by decide +kernel) rfl, kiX2, kcX2_offenders, ⟨by decide +kernel, by decide +kernel, by decide +kernel⟩, by decide⟩, (x_i3 214 (by decide +kernel) rfl), (x_i3 215 (by decide +kernel) rfl), (RX2, TX2, 12), rfl, rfl⟩
theorem klX11_304 : x_lkS RX11 304 mX8_power 2 := ⟨⟨x_i5 222 (by decide +kernel) rfl, kiX8, kcX8_power, ⟨by decide +kernel, by decide +kernel, by decide +kernel⟩, by decide⟩, (x_i5 223 (by decide +kernel) rfl)⟩
theorem klL_133 : x_lkV RL 133 mX11_plays 2 9 := ⟨⟨x_i5 225 (by decide +kernel) rfl, kiX11, kcX11_plays, ⟨by decide +kernel, by decide +kernel, by decide +kernel⟩, by decide⟩, (x_i5 226 (by decide +kernel) rfl), (x_i5 227 (by decide +kernel) rfl), (RX11, TX11, 8), rfl, rfl⟩
theorem klX11_308 : x_lkV RX11 308 mX2_playingUpTo 1 2 := ⟨⟨x_i5 229 (by decide +kernel) rfl, kiX2, kcX2_playingUpTo, ⟨by decide +kernel, by decide +kernel, by decide +kernel⟩, by decide⟩, (x_i5 230 (by decide +kernel) rfl), (x_i5 231 (by decide +kernel) rfl), (RX2, TX2, 12), rfl, rfl⟩
theorem klL_137 : x_lkV RL 137 mX11_guess 3 9 := ⟨⟨x_i5 233 (by decide +kernel) rfl, kiX11, kcX11_guess, ⟨by decide +kernel, by decide +kernel, by decide +kernel⟩, by decide⟩, (x_i5 234 (by decide +kernel) rfl), (x_i5 235 (by decide +kernel) rfl), (RX11, TX11, 8), rfl, rfl⟩
theorem klX11_311 : x_lkS RX11 311 mX8_choose 2 := ⟨⟨x_i5 237 (by decide +kernel) rfl, kiX8, kcX8_choose, ⟨by decide +kernel, by decide +kernel, by decide +kernel⟩, by decide⟩, (x_i5 238 (by decide +kernel) rfl)⟩
theorem klL_141 : x_lkV RL 141 mX11_after 3 9 := ⟨⟨x_i6 0 (by decide +kernel) rfl, kiX11, kcX11_after, ⟨by decide +kernel, by decide +kernel, by decide +kernel⟩, by decide⟩, (x_i6 1 (by decide +kernel) rfl), (x_i6 2 (by decide +kernel) rfl), (RX11, TX11, 8), rfl, rfl⟩
theorem klX11_314 : x_lkV RX11 314 mX7_sumUp 1 6 := ⟨⟨x_i6 4 (by decide +kernel) rfl, kiX7, kcX7_sumUp, ⟨by decide +kernel, by decide +kernel, by decide +kernel⟩, by decide⟩, (x_i6 5 (by decide +kernel) rfl), (x_i6 6 (by decide +kernel) rfl), (RX7, TX7, 15), rfl, rfl⟩
theorem klL_145 : x_lkV RL 145 mX11_odds 3 9 := ⟨⟨x_i6 8 (by decide +kernel) rfl, kiX11, kcX11_odds, ⟨by decide +kernel, by decide +kernel, by decide +kernel⟩, by decide⟩, (x_i6 9 (by decide +kernel) rfl), (x_i6 10 (by decide +kernel) rfl), (RX11, TX11, 8), rfl, rfl⟩
theorem klX11_317 : x_lkS RX11 317 mX4_stopping 2 := ⟨⟨x_i6 12 (by decide +kernel) rfl, kiX4, kcX4_stopping, ⟨by decide +kernel, by decide +kernel, by decide +kernel⟩, by decide⟩, (x_i5 18 (by decide +kernel) rfl)⟩
theorem klL_149 : x_lkV RL 149 mX11_small 2 9 := ⟨⟨x_i6 13 (by decide +kernel) rfl, kiX11, kcX11_small, ⟨by decide +kernel, by decide +kernel, by decide +kernel⟩, by decide⟩, (x_i6 14 (by decide +kernel) rfl), (x_i6 15 (by decide +kernel) rfl), (RX11, TX11, 8), rfl, rfl⟩
theorem klX11_320 : x_lkS RX11 320 mX4_smallest 1 := ⟨⟨x_i6 17 (by decide +kernel) rfl, kiX4, kcX4_smallest, ⟨by decide +kernel, by decide +kernel, by decide +kernel⟩, by decide⟩, (x_i6 18 (by decide +kernel) rfl)⟩
theorem klX4_75 : x_lkS RX4 75 mJ6_bitCount_0f7a4 1 := ⟨⟨x_i6 20 (by decide +kernel) rfl, kiJ6, kcJ6_bitCount_0f7a4, ⟨by decide +kernel, by decide +kernel, by decide +kernel⟩, by decide⟩, (x_i4 208 (by decide +kernel) rfl)⟩
theorem klX4_49 : x_lkS RX4 49 mJ9_min_7cf53 2 := ⟨⟨x_i6 21 (by decide +kernel) rfl, kiJ9, kcJ9_min_7cf53, ⟨by decide +kernel, by decide +kernel, by decide +kernel⟩, by decide⟩, (x_i4 187 (by decide +kernel) rfl)⟩
theorem klX11_323 : x_lkS RX11 323 mX4_largest 1 := ⟨⟨x_i6 22 (by decide +kernel) rfl, kiX4, kcX4_largest, ⟨by decide +kernel, by decide +kernel, by decide +kernel⟩, by decide⟩, (x_i6 23 (by decide +kernel) rfl)⟩
theorem klX11_326 : x_lkV RX11 326 mX4_fewestLies 0 4 := ⟨⟨x_i6 25 (by decide +kernel) rfl, kiX4, kcX4_fewestLies, ⟨by decide +kernel, by decide +kernel, by decide +kernel⟩, by decide⟩, (x_i6 26 (by decide +kernel) rfl), (x_i6 27 (by decide +kernel) rfl), (RX4, TX4, 4), rfl, rfl⟩
theorem klX11_329 : x_lkV RX11 329 mX4_needless 0 4 := ⟨⟨x_i6 29 (by decide +kernel) rfl, kiX4, kcX4_needless, ⟨by decide +kernel, by decide +kernel, by decide +kernel⟩, by decide⟩, (x_i6 30 (by decide +kernel) rfl), (x_i6 31 (by decide +kernel) rfl), (RX4, TX4, 4), rfl, rfl⟩
theorem klX4_55 : x_lkV RX4 55 mX4_liesBits 1 4 := ⟨⟨x_i6 33 (by decide +kernel) rfl, kiX4, kcX4_liesBits, ⟨by decide +kernel, by decide +kernel, by decide +kernel⟩, by decide⟩, (x_i6 35 (by decide +kernel) rfl), (x_in 41 (by decide +kernel) rfl), (RX4, TX4, 4), rfl, rfl⟩
theorem klL_153 : x_lkV RL 153 mX11_count 1 9 := ⟨⟨x_i6 37 (by decide +kernel) rfl, kiX11, kcX11_count, ⟨by decide +kernel, by decide +kernel, by decide +kernel⟩, by decide⟩, (x_i6 38 (by decide +kernel) rfl), (x_i6 39 (by decide +kernel) rfl), (RX11, TX11, 8), rfl, rfl⟩
theorem klL_157 : x_lkV RL 157 mX11_image 1 9 := ⟨⟨x_i6 41 (by decide +kernel) rfl, kiX11, kcX11_image, ⟨by decide +kernel, by decide +kernel, by decide +kernel⟩, by decide⟩, (x_i6 42 (by decide +kernel) rfl), (x_i6 43 (by decide +kernel) rfl), (RX11, TX11, 8), rfl, rfl⟩
theorem klX11_336 : x_lkV RX11 336 mX9_copyFrom 1 7 := ⟨⟨x_i6 45 (by decide +kernel) rfl, kiX9, kcX9_copyFrom, ⟨by decide +kernel, by decide +kernel, by decide +kernel⟩, by decide⟩, (x_i6 46 (by decide +kernel) rfl), (x_i6 47 (by decide +kernel) rfl), (RX9, TX9, 8), rfl, rfl⟩
theorem klL_162 : x_lkV RL 162 mX11_again 1 9 := ⟨⟨x_i6 50 (by decide +kernel) rfl, kiX11, kcX11_again, ⟨by decide +kernel, by decide +kernel, by decide +kernel⟩, by decide⟩, (x_i6 51 (by decide +kernel) rfl), (x_i6 52 (by decide +kernel) rfl), (RX11, TX11, 8), rfl, rfl⟩
theorem klL_12 : x_lkI RL 12 mX12_init 0 := ⟨⟨x_i6 56 (by decide +kernel) rfl, kiX12, kcX12_init, ⟨by decide +kernel, by decide +kernel, by decide +kernel⟩, by decide⟩, (x_i6 57 (by decide +kernel) rfl), rfl, rfl⟩
theorem klL_17 : x_lkV RL 17 mX12_feed 5 10 := ⟨⟨x_i6 223 (by decide +kernel) rfl, kiX12, kcX12_feed, ⟨by decide +kernel, by decide +kernel, by decide +kernel⟩, by decide⟩, (x_i6 224 (by decide +kernel) rfl), (x_i6 225 (by decide +kernel) rfl), (RX12, TX12, 54), rfl, rfl⟩
theorem klX12_88 : x_lkV RX12 88 mX12_four 1 10 := ⟨⟨x_i6 227 (by decide +kernel) rfl, kiX12, kcX12_four, ⟨by decide +kernel, by decide +kernel, by decide +kernel⟩, by decide⟩, (x_i6 229 (by decide +kernel) rfl), (x_in 42 (by decide +kernel) rfl), (RX12, TX12, 54), rfl, rfl⟩
theorem klL_22 : x_lkV RL 22 mX12_end 1 10 := ⟨⟨x_i6 231 (by decide +kernel) rfl, kiX12, kcX12_end, ⟨by decide +kernel, by decide +kernel, by decide +kernel⟩, by decide⟩, (x_i6 232 (by decide +kernel) rfl), (x_i6 233 (by decide +kernel) rfl), (RX12, TX12, 54), rfl, rfl⟩
theorem klX12_84 : x_lkS RX12 84 mX12_in 3 := ⟨⟨x_i6 235 (by decide +kernel) rfl, kiX12, kcX12_in, ⟨by decide +kernel, by decide +kernel, by decide +kernel⟩, by decide⟩, (x_i6 236 (by decide +kernel) rfl)⟩
theorem klL_27 : x_lkV RL 27 mX12_text 2 10 := ⟨⟨x_i6 238 (by decide +kernel) rfl, kiX12, kcX12_text, ⟨by decide +kernel, by decide +kernel, by decide +kernel⟩, by decide⟩, (x_i6 239 (by decide +kernel) rfl), (x_i7 0 (by decide +kernel) rfl), (RX12, TX12, 54), rfl, rfl⟩
theorem klX12_231 : x_lkV RX12 231 mX12_is 2 10 := ⟨⟨x_i7 2 (by decide +kernel) rfl, kiX12, kcX12_is, ⟨by decide +kernel, by decide +kernel, by decide +kernel⟩, by decide⟩, (x_i7 4 (by decide +kernel) rfl), (x_in 43 (by decide +kernel) rfl), (RX12, TX12, 54), rfl, rfl⟩
theorem klX12_234 : x_lkV RX12 234 mX12_readText 1 10 := ⟨⟨x_i7 6 (by decide +kernel) rfl, kiX12, kcX12_readText, ⟨by decide +kernel, by decide +kernel, by decide +kernel⟩, by decide⟩, (x_i7 8 (by decide +kernel) rfl), (x_in 44 (by decide +kernel) rfl), (RX12, TX12, 54), rfl, rfl⟩
theorem klX12_136 : x_lkV RX12 136 mX12_token 0 10 := ⟨⟨x_i7 10 (by decide +kernel) rfl, kiX12, kcX12_token, ⟨by decide +kernel, by decide +kernel, by decide +kernel⟩, by decide⟩, (x_i7 12 (by decide +kernel) rfl), (x_in 45 (by decide +kernel) rfl), (RX12, TX12, 54), rfl, rfl⟩
theorem klX12_98 : x_lkV RX12 98 mX12_see 0 10 := ⟨⟨x_i7 14 (by decide +kernel) rfl, kiX12, kcX12_see, ⟨by decide +kernel, by decide +kernel, by decide +kernel⟩, by decide⟩, (x_i7 16 (by decide +kernel) rfl), (x_in 46 (by decide +kernel) rfl), (RX12, TX12, 54), rfl, rfl⟩
theorem klX12_228 : x_lkV RX12 228 mX12_allLines 1 10 := ⟨⟨x_i7 18 (by decide +kernel) rfl, kiX12, kcX12_allLines, ⟨by decide +kernel, by decide +kernel, by decide +kernel⟩, by decide⟩, (x_i7 20 (by decide +kernel) rfl), (x_in 47 (by decide +kernel) rfl), (RX12, TX12, 54), rfl, rfl⟩
theorem klX12_218 : x_lkV RX12 218 mX12_fairLine 2 10 := ⟨⟨x_i7 22 (by decide +kernel) rfl, kiX12, kcX12_fairLine, ⟨by decide +kernel, by decide +kernel, by decide +kernel⟩, by decide⟩, (x_i7 24 (by decide +kernel) rfl), (x_in 48 (by decide +kernel) rfl), (RX12, TX12, 54), rfl, rfl⟩
theorem klX12_159 : x_lkV RX12 159 mX12_standLine 0 10 := ⟨⟨x_i7 27 (by decide +kernel) rfl, kiX12, kcX12_standLine, ⟨by decide +kernel, by decide +kernel, by decide +kernel⟩, by decide⟩, (x_i7 29 (by decide +kernel) rfl), (x_in 49 (by decide +kernel) rfl), (RX12, TX12, 54), rfl, rfl⟩
theorem klX12_139 : x_lkV RX12 139 mX12_take 3 10 := ⟨⟨x_i7 31 (by decide +kernel) rfl, kiX12, kcX12_take, ⟨by decide +kernel, by decide +kernel, by decide +kernel⟩, by decide⟩, (x_i7 33 (by decide +kernel) rfl), (x_in 50 (by decide +kernel) rfl), (RX12, TX12, 54), rfl, rfl⟩
theorem klX12_124 : x_lkV RX12 124 mX12_fails 0 10 := ⟨⟨x_i7 35 (by decide +kernel) rfl, kiX12, kcX12_fails, ⟨by decide +kernel, by decide +kernel, by decide +kernel⟩, by decide⟩, (x_i7 37 (by decide +kernel) rfl), (x_in 51 (by decide +kernel) rfl), (RX12, TX12, 54), rfl, rfl⟩
theorem klX12_128 : x_lkV RX12 128 mX12_addsFault 2 10 := ⟨⟨x_i7 39 (by decide +kernel) rfl, kiX12, kcX12_addsFault, ⟨by decide +kernel, by decide +kernel, by decide +kernel⟩, by decide⟩, (x_i7 41 (by decide +kernel) rfl), (x_in 52 (by decide +kernel) rfl), (RX12, TX12, 54), rfl, rfl⟩
theorem klX12_164 : x_lkV RX12 164 mX12_goerLine 1 10 := ⟨⟨x_i7 44 (by decide +kernel) rfl, kiX12, kcX12_goerLine, ⟨by decide +kernel, by decide +kernel, by decide +kernel⟩, by decide⟩, (x_i7 46 (by decide +kernel) rfl), (x_in 53 (by decide +kernel) rfl), (RX12, TX12, 54), rfl, rfl⟩
theorem klX12_142 : x_lkV RX12 142 mX12_full 3 10 := ⟨⟨x_i7 48 (by decide +kernel) rfl, kiX12, kcX12_full, ⟨by decide +kernel, by decide +kernel, by decide +kernel⟩, by decide⟩, (x_i7 50 (by decide +kernel) rfl), (x_in 54 (by decide +kernel) rfl), (RX12, TX12, 54), rfl, rfl⟩
theorem klX12_146 : x_lkV RX12 146 mX12_keep 5 10 := ⟨⟨x_i7 52 (by decide +kernel) rfl, kiX12, kcX12_keep, ⟨by decide +kernel, by decide +kernel, by decide +kernel⟩, by decide⟩, (x_i7 54 (by decide +kernel) rfl), (x_in 55 (by decide +kernel) rfl), (RX12, TX12, 54), rfl, rfl⟩
theorem klX12_170 : x_lkV RX12 170 mX12_slantLine 0 10 := ⟨⟨x_i7 57 (by decide +kernel) rfl, kiX12, kcX12_slantLine, ⟨by decide +kernel, by decide +kernel, by decide +kernel⟩, by decide⟩, (x_i7 59 (by decide +kernel) rfl), (x_in 56 (by decide +kernel) rfl), (RX12, TX12, 54), rfl, rfl⟩
theorem klX12_175 : x_lkV RX12 175 mX12_mindsLine 1 10 := ⟨⟨x_i7 62 (by decide +kernel) rfl, kiX12, kcX12_mindsLine, ⟨by decide +kernel, by decide +kernel, by decide +kernel⟩, by decide⟩, (x_i7 64 (by decide +kernel) rfl), (x_in 57 (by decide +kernel) rfl), (RX12, TX12, 54), rfl, rfl⟩
theorem klX12_180 : x_lkV RX12 180 mX12_wrongLine 0 10 := ⟨⟨x_i7 67 (by decide +kernel) rfl, kiX12, kcX12_wrongLine, ⟨by decide +kernel, by decide +kernel, by decide +kernel⟩, by decide⟩, (x_i7 69 (by decide +kernel) rfl), (x_in 58 (by decide +kernel) rfl), (RX12, TX12, 54), rfl, rfl⟩
theorem klX12_153 : x_lkS RX12 153 mX12_greater 2 := ⟨⟨x_i7 71 (by decide +kernel) rfl, kiX12, kcX12_greater, ⟨by decide +kernel, by decide +kernel, by decide +kernel⟩, by decide⟩, (x_i7 72 (by decide +kernel) rfl)⟩
theorem klX12_185 : x_lkV RX12 185 mX12_confessLine 1 10 := ⟨⟨x_i7 75 (by decide +kernel) rfl, kiX12, kcX12_confessLine, ⟨by decide +kernel, by decide +kernel, by decide +kernel⟩, by decide⟩, (x_i7 77 (by decide +kernel) rfl), (x_in 59 (by decide +kernel) rfl), (RX12, TX12, 54), rfl, rfl⟩
theorem klX12_190 : x_lkV RX12 190 mX12_townLine 1 10 := ⟨⟨x_i7 80 (by decide +kernel) rfl, kiX12, kcX12_townLine, ⟨by decide +kernel, by decide +kernel, by decide +kernel⟩, by decide⟩, (x_i7 82 (by decide +kernel) rfl), (x_in 60 (by decide +kernel) rfl), (RX12, TX12, 54), rfl, rfl⟩
theorem klX12_222 : x_lkV RX12 222 mX12_dayLine 2 10 := ⟨⟨x_i7 84 (by decide +kernel) rfl, kiX12, kcX12_dayLine, ⟨by decide +kernel, by decide +kernel, by decide +kernel⟩, by decide⟩, (x_i7 86 (by decide +kernel) rfl), (x_in 61 (by decide +kernel) rfl), (RX12, TX12, 54), rfl, rfl⟩
theorem klX12_205 : x_lkV RX12 205 mX12_deedBy 1 10 := ⟨⟨x_i7 88 (by decide +kernel) rfl, kiX12, kcX12_deedBy, ⟨by decide +kernel, by decide +kernel, by decide +kernel⟩, by decide⟩, (x_i7 90 (by decide +kernel) rfl), (x_in 62 (by decide +kernel) rfl), (RX12, TX12, 54), rfl, rfl⟩
theorem klX12_209 : x_lkS RX12 209 mX12_lesser 2 := ⟨⟨x_i7 98 (by decide +kernel) rfl, kiX12, kcX12_lesser, ⟨by decide +kernel, by decide +kernel, by decide +kernel⟩, by decide⟩, (x_i7 99 (by decide +kernel) rfl)⟩
theorem klX12_225 : x_lkV RX12 225 mX12_logLine 2 10 := ⟨⟨x_i7 101 (by decide +kernel) rfl, kiX12, kcX12_logLine, ⟨by decide +kernel, by decide +kernel, by decide +kernel⟩, by decide⟩, (x_i7 103 (by decide +kernel) rfl), (x_in 63 (by decide +kernel) rfl), (RX12, TX12, 54), rfl, rfl⟩
theorem klX12_237 : x_lkV RX12 237 mX12_store 3 10 := ⟨⟨x_i7 108 (by decide +kernel) rfl, kiX12, kcX12_store, ⟨by decide +kernel, by decide +kernel, by decide +kernel⟩, by decide⟩, (x_i7 110 (by decide +kernel) rfl), (x_in 64 (by decide +kernel) rfl), (RX12, TX12, 54), rfl, rfl⟩
theorem klL_31 : x_lkV RL 31 mX12_fault 1 10 := ⟨⟨x_i7 112 (by decide +kernel) rfl, kiX12, kcX12_fault, ⟨by decide +kernel, by decide +kernel, by decide +kernel⟩, by decide⟩, (x_i7 113 (by decide +kernel) rfl), (x_i7 114 (by decide +kernel) rfl), (RX12, TX12, 54), rfl, rfl⟩
theorem klL_35 : x_lkV RL 35 mX12_fair 2 10 := ⟨⟨x_i7 116 (by decide +kernel) rfl, kiX12, kcX12_fair, ⟨by decide +kernel, by decide +kernel, by decide +kernel⟩, by decide⟩, (x_i7 117 (by decide +kernel) rfl), (x_i7 118 (by decide +kernel) rfl), (RX12, TX12, 54), rfl, rfl⟩
theorem klX12_300 : x_lkV RX12 300 mX12_hand 1 10 := ⟨⟨x_i7 120 (by decide +kernel) rfl, kiX12, kcX12_hand, ⟨by decide +kernel, by decide +kernel, by decide +kernel⟩, by decide⟩, (x_i7 122 (by decide +kernel) rfl), (x_in 65 (by decide +kernel) rfl), (RX12, TX12, 54), rfl, rfl⟩
theorem klX12_244 : x_lkV RX12 244 mX12_of 1 10 := ⟨⟨x_i7 124 (by decide +kernel) rfl, kiX12, kcX12_of, ⟨by decide +kernel, by decide +kernel, by decide +kernel⟩, by decide⟩, (x_i7 126 (by decide +kernel) rfl), (x_in 66 (by decide +kernel) rfl), (RX12, TX12, 54), rfl, rfl⟩
theorem klX12_303 : x_lkV RX12 303 mX12_isGoer 1 10 := ⟨⟨x_i7 128 (by decide +kernel) rfl, kiX12, kcX12_isGoer, ⟨by decide +kernel, by decide +kernel, by decide +kernel⟩, by decide⟩, (x_i7 130 (by decide +kernel) rfl), (x_in 67 (by decide +kernel) rfl), (RX12, TX12, 54), rfl, rfl⟩
theorem klX12_306 : x_lkV RX12 306 mX12_row 3 10 := ⟨⟨x_i7 132 (by decide +kernel) rfl, kiX12, kcX12_row, ⟨by decide +kernel, by decide +kernel, by decide +kernel⟩, by decide⟩, (x_i7 134 (by decide +kernel) rfl), (x_in 68 (by decide +kernel) rfl), (RX12, TX12, 54), rfl, rfl⟩
theorem klL_40 : x_lkV RL 40 mX12_deed 3 10 := ⟨⟨x_i7 136 (by decide +kernel) rfl, kiX12, kcX12_deed, ⟨by decide +kernel, by decide +kernel, by decide +kernel⟩, by decide⟩, (x_i7 137 (by decide +kernel) rfl), (x_i7 138 (by decide +kernel) rfl), (RX12, TX12, 54), rfl, rfl⟩
theorem klX12_313 : x_lkV RX12 313 mX12_hasDay 1 10 := ⟨⟨x_i7 140 (by decide +kernel) rfl, kiX12, kcX12_hasDay, ⟨by decide +kernel, by decide +kernel, by decide +kernel⟩, by decide⟩, (x_i7 142 (by decide +kernel) rfl), (x_in 69 (by decide +kernel) rfl), (RX12, TX12, 54), rfl, rfl⟩
theorem klX12_316 : x_lkV RX12 316 mX12_deeds 0 10 := ⟨⟨x_i7 144 (by decide +kernel) rfl, kiX12, kcX12_deeds, ⟨by decide +kernel, by decide +kernel, by decide +kernel⟩, by decide⟩, (x_i7 146 (by decide +kernel) rfl), (x_in 70 (by decide +kernel) rfl), (RX12, TX12, 54), rfl, rfl⟩
theorem klX12_319 : x_lkV RX12 319 mX12_deedOf 2 10 := ⟨⟨x_i7 148 (by decide +kernel) rfl, kiX12, kcX12_deedOf, ⟨by decide +kernel, by decide +kernel, by decide +kernel⟩, by decide⟩, (x_i7 150 (by decide +kernel) rfl), (x_in 71 (by decide +kernel) rfl), (RX12, TX12, 54), rfl, rfl⟩
theorem klL_44 : x_lkV RL 44 mX12_till 2 10 := ⟨⟨x_i7 152 (by decide +kernel) rfl, kiX12, kcX12_till, ⟨by decide +kernel, by decide +kernel, by decide +kernel⟩, by decide⟩, (x_i7 153 (by decide +kernel) rfl), (x_i7 154 (by decide +kernel) rfl), (RX12, TX12, 54), rfl, rfl⟩
theorem klX12_344 : x_lkV RX12 344 mX12_layAll 2 10 := ⟨⟨x_i7 156 (by decide +kernel) rfl, kiX12, kcX12_layAll, ⟨by decide +kernel, by decide +kernel, by decide +kernel⟩, by decide⟩, (x_i7 158 (by decide +kernel) rfl), (x_in 72 (by decide +kernel) rfl), (RX12, TX12, 54), rfl, rfl⟩
theorem klX12_347 : x_lkV RX12 347 mX12_play 1 10 := ⟨⟨x_i7 160 (by decide +kernel) rfl, kiX12, kcX12_play, ⟨by decide +kernel, by decide +kernel, by decide +kernel⟩, by decide⟩, (x_i7 162 (by decide +kernel) rfl), (x_in 73 (by decide +kernel) rfl), (RX12, TX12, 54), rfl, rfl⟩
theorem klX12_341 : x_lkV RX12 341 mX12_doesDeed 1 10 := ⟨⟨x_i7 164 (by decide +kernel) rfl, kiX12, kcX12_doesDeed, ⟨by decide +kernel, by decide +kernel, by decide +kernel⟩, by decide⟩, (x_i7 166 (by decide +kernel) rfl), (x_in 74 (by decide +kernel) rfl), (RX12, TX12, 54), rfl, rfl⟩
theorem klX12_337 : x_lkV RX12 337 mX12_does 4 10 := ⟨⟨x_i7 168 (by decide +kernel) rfl, kiX12, kcX12_does, ⟨by decide +kernel, by decide +kernel, by decide +kernel⟩, by decide⟩, (x_i7 170 (by decide +kernel) rfl), (x_in 75 (by decide +kernel) rfl), (RX12, TX12, 54), rfl, rfl⟩
theorem klX12_328 : x_lkV RX12 328 mX12_sounds 0 10 := ⟨⟨x_i7 172 (by decide +kernel) rfl, kiX12, kcX12_sounds, ⟨by decide +kernel, by decide +kernel, by decide +kernel⟩, by decide⟩, (x_i7 174 (by decide +kernel) rfl), (x_in 76 (by decide +kernel) rfl), (RX12, TX12, 54), rfl, rfl⟩
theorem klX12_322 : x_lkV RX12 322 mX12_offenders 0 10 := ⟨⟨x_i7 176 (by decide +kernel) rfl, kiX12, kcX12_offenders, ⟨by decide +kernel, by decide +kernel, by decide +kernel⟩, by decide⟩, (x_i7 178 (by decide +kernel) rfl), (x_in 77 (by decide +kernel) rfl), (RX12, TX12, 54), rfl, rfl⟩
theorem klX12_297 : x_lkV RX12 297 mX12_offends 1 10 := ⟨⟨x_i7 180 (by decide +kernel) rfl, kiX12, kcX12_offends, ⟨by decide +kernel, by decide +kernel, by decide +kernel⟩, by decide⟩, (x_i7 182 (by decide +kernel) rfl), (x_in 78 (by decide +kernel) rfl), (RX12, TX12, 54), rfl, rfl⟩
theorem klX12_294 : x_lkV RX12 294 mX12_fromStand 1 10 := ⟨⟨x_i7 184 (by decide +kernel) rfl, kiX12, kcX12_fromStand, ⟨by decide +kernel, by decide +kernel, by decide +kernel⟩, by decide⟩, (x_i7 186 (by decide +kernel) rfl), (x_in 79 (by decide +kernel) rfl), (RX12, TX12, 54), rfl, rfl⟩
theorem klX12_290 : x_lkS RX12 290 mX12_way 4 := ⟨⟨x_i7 188 (by decide +kernel) rfl, kiX12, kcX12_way, ⟨by decide +kernel, by decide +kernel, by decide +kernel⟩, by decide⟩, (x_i7 189 (by decide +kernel) rfl)⟩
theorem klX12_76 : x_lkS RX12 76 mX12_has 2 := ⟨⟨x_i7 191 (by decide +kernel) rfl, kiX12, kcX12_has, ⟨by decide +kernel, by decide +kernel, by decide +kernel⟩, by decide⟩, (x_i7 192 (by decide +kernel) rfl)⟩
theorem klX12_325 : x_lkV RX12 325 mX12_isSlanted 1 10 := ⟨⟨x_i7 194 (by decide +kernel) rfl, kiX12, kcX12_isSlanted, ⟨by decide +kernel, by decide +kernel, by decide +kernel⟩, by decide⟩, (x_i7 196 (by decide +kernel) rfl), (x_in 80 (by decide +kernel) rfl), (RX12, TX12, 54), rfl, rfl⟩
theorem klX12_331 : x_lkV RX12 331 mX12_fitted 0 10 := ⟨⟨x_i7 198 (by decide +kernel) rfl, kiX12, kcX12_fitted, ⟨by decide +kernel, by decide +kernel, by decide +kernel⟩, by decide⟩, (x_i7 200 (by decide +kernel) rfl), (x_in 81 (by decide +kernel) rfl), (RX12, TX12, 54), rfl, rfl⟩
theorem klX12_334 : x_lkV RX12 334 mX12_changes 2 10 := ⟨⟨x_i7 202 (by decide +kernel) rfl, kiX12, kcX12_changes, ⟨by decide +kernel, by decide +kernel, by decide +kernel⟩, by decide⟩, (x_i7 204 (by decide +kernel) rfl), (x_in 82 (by decide +kernel) rfl), (RX12, TX12, 54), rfl, rfl⟩
theorem klL_49 : x_lkV RL 49 mX12_state 4 10 := ⟨⟨x_i7 206 (by decide +kernel) rfl, kiX12, kcX12_state, ⟨by decide +kernel, by decide +kernel, by decide +kernel⟩, by decide⟩, (x_i7 207 (by decide +kernel) rfl), (x_i7 208 (by decide +kernel) rfl), (RX12, TX12, 54), rfl, rfl⟩
theorem klX12_350 : x_lkV RX12 350 mX12_ofState 1 10 := ⟨⟨x_i7 210 (by decide +kernel) rfl, kiX12, kcX12_ofState, ⟨by decide +kernel, by decide +kernel, by decide +kernel⟩, by decide⟩, (x_i7 212 (by decide +kernel) rfl), (x_in 83 (by decide +kernel) rfl), (RX12, TX12, 54), rfl, rfl⟩
theorem klL_53 : x_lkV RL 53 mX12_mend 2 10 := ⟨⟨x_i7 214 (by decide +kernel) rfl, kiX12, kcX12_mend, ⟨by decide +kernel, by decide +kernel, by decide +kernel⟩, by decide⟩, (x_i7 215 (by decide +kernel) rfl), (x_i7 216 (by decide +kernel) rfl), (RX12, TX12, 54), rfl, rfl⟩
theorem klL_58 : x_lkV RL 58 mX12_quiet 2 10 := ⟨⟨x_i7 218 (by decide +kernel) rfl, kiX12, kcX12_quiet, ⟨by decide +kernel, by decide +kernel, by decide +kernel⟩, by decide⟩, (x_i7 219 (by decide +kernel) rfl), (x_i7 220 (by decide +kernel) rfl), (RX12, TX12, 54), rfl, rfl⟩
theorem klL_62 : x_lkV RL 62 mX12_asking 2 10 := ⟨⟨x_i7 223 (by decide +kernel) rfl, kiX12, kcX12_asking, ⟨by decide +kernel, by decide +kernel, by decide +kernel⟩, by decide⟩, (x_i7 224 (by decide +kernel) rfl), (x_i7 225 (by decide +kernel) rfl), (RX12, TX12, 54), rfl, rfl⟩
theorem klX12_367 : x_lkV RX12 367 mX12_questions 0 10 := ⟨⟨x_i7 227 (by decide +kernel) rfl, kiX12, kcX12_questions, ⟨by decide +kernel, by decide +kernel, by decide +kernel⟩, by decide⟩, (x_i7 229 (by decide +kernel) rfl), (x_in 84 (by decide +kernel) rfl), (RX12, TX12, 54), rfl, rfl⟩
theorem klX12_354 : x_lkV RX12 354 mX12_wrongsOf 1 10 := ⟨⟨x_i7 231 (by decide +kernel) rfl, kiX12, kcX12_wrongsOf, ⟨by decide +kernel, by decide +kernel, by decide +kernel⟩, by decide⟩, (x_i7 233 (by decide +kernel) rfl), (x_in 85 (by decide +kernel) rfl), (RX12, TX12, 54), rfl, rfl⟩
theorem klX12_364 : x_lkV RX12 364 mX12_takeLeast 0 10 := ⟨⟨x_i7 235 (by decide +kernel) rfl, kiX12, kcX12_takeLeast, ⟨by decide +kernel, by decide +kernel, by decide +kernel⟩, by decide⟩, (x_i7 237 (by decide +kernel) rfl), (x_in 86 (by decide +kernel) rfl), (RX12, TX12, 54), rfl, rfl⟩
theorem klX12_370 : x_lkV RX12 370 mX12_allWrongs 0 10 := ⟨⟨x_i7 239 (by decide +kernel) rfl, kiX12, kcX12_allWrongs, ⟨by decide +kernel, by decide +kernel, by decide +kernel⟩, by decide⟩, (x_i8 1 (by decide +kernel) rfl), (x_in 87 (by decide +kernel) rfl), (RX12, TX12, 54), rfl, rfl⟩
theorem klX12_373 : x_lkS RX12 373 mX12_part 3 := ⟨⟨x_i8 3 (by decide +kernel) rfl, kiX12, kcX12_part, ⟨by decide +kernel, by decide +kernel, by decide +kernel⟩, by decide⟩, (x_i8 4 (by decide +kernel) rfl)⟩
theorem klX12_357 : x_lkS RX12 357 mX12_common 2 := ⟨⟨x_i8 6 (by decide +kernel) rfl, kiX12, kcX12_common, ⟨by decide +kernel, by decide +kernel, by decide +kernel⟩, by decide⟩, (x_i8 7 (by decide +kernel) rfl)⟩
theorem klL_66 : x_lkV RL 66 mX12_confess 2 10 := ⟨⟨x_i8 9 (by decide +kernel) rfl, kiX12, kcX12_confess, ⟨by decide +kernel, by decide +kernel, by decide +kernel⟩, by decide⟩, (x_i8 10 (by decide +kernel) rfl), (x_i8 11 (by decide +kernel) rfl), (RX12, TX12, 54), rfl, rfl⟩
theorem klX12_377 : x_lkV RX12 377 mX12_mindedKinds 0 10 := ⟨⟨x_i8 13 (by decide +kernel) rfl, kiX12, kcX12_mindedKinds, ⟨by decide +kernel, by decide +kernel, by decide +kernel⟩, by decide⟩, (x_i8 15 (by decide +kernel) rfl), (x_in 88 (by decide +kernel) rfl), (RX12, TX12, 54), rfl, rfl⟩
theorem klX12_380 : x_lkV RX12 380 mX12_pricesOf 1 10 := ⟨⟨x_i8 17 (by decide +kernel) rfl, kiX12, kcX12_pricesOf, ⟨by decide +kernel, by decide +kernel, by decide +kernel⟩, by decide⟩, (x_i8 19 (by decide +kernel) rfl), (x_in 89 (by decide +kernel) rfl), (RX12, TX12, 54), rfl, rfl⟩
theorem klX12_383 : x_lkV RX12 383 mX12_pardons 1 10 := ⟨⟨x_i8 21 (by decide +kernel) rfl, kiX12, kcX12_pardons, ⟨by decide +kernel, by decide +kernel, by decide +kernel⟩, by decide⟩, (x_i8 23 (by decide +kernel) rfl), (x_in 90 (by decide +kernel) rfl), (RX12, TX12, 54), rfl, rfl⟩
theorem klL_70 : x_lkV RL 70 mX12_route 2 10 := ⟨⟨x_i8 25 (by decide +kernel) rfl, kiX12, kcX12_route, ⟨by decide +kernel, by decide +kernel, by decide +kernel⟩, by decide⟩, (x_i8 26 (by decide +kernel) rfl), (x_i8 27 (by decide +kernel) rfl), (RX12, TX12, 54), rfl, rfl⟩
theorem klX12_399 : x_lkV RX12 399 mX12_layRoute 0 10 := ⟨⟨x_i8 29 (by decide +kernel) rfl, kiX12, kcX12_layRoute, ⟨by decide +kernel, by decide +kernel, by decide +kernel⟩, by decide⟩, (x_i8 31 (by decide +kernel) rfl), (x_in 91 (by decide +kernel) rfl), (RX12, TX12, 54), rfl, rfl⟩
theorem klX12_393 : x_lkV RX12 393 mX12_findRoutes 0 10 := ⟨⟨x_i8 33 (by decide +kernel) rfl, kiX12, kcX12_findRoutes, ⟨by decide +kernel, by decide +kernel, by decide +kernel⟩, by decide⟩, (x_i8 35 (by decide +kernel) rfl), (x_in 92 (by decide +kernel) rfl), (RX12, TX12, 54), rfl, rfl⟩
theorem klX12_390 : x_lkV RX12 390 mX12_scoreBy 3 10 := ⟨⟨x_i8 37 (by decide +kernel) rfl, kiX12, kcX12_scoreBy, ⟨by decide +kernel, by decide +kernel, by decide +kernel⟩, by decide⟩, (x_i8 39 (by decide +kernel) rfl), (x_in 93 (by decide +kernel) rfl), (RX12, TX12, 54), rfl, rfl⟩
theorem klX12_387 : x_lkV RX12 387 mX12_townWay 2 10 := ⟨⟨x_i8 42 (by decide +kernel) rfl, kiX12, kcX12_townWay, ⟨by decide +kernel, by decide +kernel, by decide +kernel⟩, by decide⟩, (x_i8 44 (by decide +kernel) rfl), (x_in 94 (by decide +kernel) rfl), (RX12, TX12, 54), rfl, rfl⟩
theorem klL_75 : x_lkV RL 75 mX12_byTurns 3 10 := ⟨⟨x_i8 46 (by decide +kernel) rfl, kiX12, kcX12_byTurns, ⟨by decide +kernel, by decide +kernel, by decide +kernel⟩, by decide⟩, (x_i8 47 (by decide +kernel) rfl), (x_i8 48 (by decide +kernel) rfl), (RX12, TX12, 54), rfl, rfl⟩
theorem klX12_405 : x_lkS RX12 405 mX12_nines 1 := ⟨⟨x_i8 50 (by decide +kernel) rfl, kiX12, kcX12_nines, ⟨by decide +kernel, by decide +kernel, by decide +kernel⟩, by decide⟩, (x_i8 51 (by decide +kernel) rfl)⟩
theorem klX12_418 : x_lkV RX12 418 mX12_endOf 2 10 := ⟨⟨x_i8 53 (by decide +kernel) rfl, kiX12, kcX12_endOf, ⟨by decide +kernel, by decide +kernel, by decide +kernel⟩, by decide⟩, (x_i8 55 (by decide +kernel) rfl), (x_in 95 (by decide +kernel) rfl), (RX12, TX12, 54), rfl, rfl⟩
theorem klX12_402 : x_lkV RX12 402 mX12_asTold 0 10 := ⟨⟨x_i8 57 (by decide +kernel) rfl, kiX12, kcX12_asTold, ⟨by decide +kernel, by decide +kernel, by decide +kernel⟩, by decide⟩, (x_i8 59 (by decide +kernel) rfl), (x_in 96 (by decide +kernel) rfl), (RX12, TX12, 54), rfl, rfl⟩
theorem klX12_408 : x_lkV RX12 408 mX12_turned 2 10 := ⟨⟨x_i8 61 (by decide +kernel) rfl, kiX12, kcX12_turned, ⟨by decide +kernel, by decide +kernel, by decide +kernel⟩, by decide⟩, (x_i8 63 (by decide +kernel) rfl), (x_in 97 (by decide +kernel) rfl), (RX12, TX12, 54), rfl, rfl⟩
theorem klX12_412 : x_lkS RX12 412 mX12_ones 1 := ⟨⟨x_i8 65 (by decide +kernel) rfl, kiX12, kcX12_ones, ⟨by decide +kernel, by decide +kernel, by decide +kernel⟩, by decide⟩, (x_i8 66 (by decide +kernel) rfl)⟩
theorem klX12_421 : x_lkV RX12 421 mX12_fold 2 10 := ⟨⟨x_i8 68 (by decide +kernel) rfl, kiX12, kcX12_fold, ⟨by decide +kernel, by decide +kernel, by decide +kernel⟩, by decide⟩, (x_i8 70 (by decide +kernel) rfl), (x_in 98 (by decide +kernel) rfl), (RX12, TX12, 54), rfl, rfl⟩
theorem klL_79 : x_lkV RL 79 mX12_log 2 10 := ⟨⟨x_i8 72 (by decide +kernel) rfl, kiX12, kcX12_log, ⟨by decide +kernel, by decide +kernel, by decide +kernel⟩, by decide⟩, (x_i8 73 (by decide +kernel) rfl), (x_i8 74 (by decide +kernel) rfl), (RX12, TX12, 54), rfl, rfl⟩
theorem klX12_428 : x_lkV RX12 428 mX12_hasLog 1 10 := ⟨⟨x_i8 76 (by decide +kernel) rfl, kiX12, kcX12_hasLog, ⟨by decide +kernel, by decide +kernel, by decide +kernel⟩, by decide⟩, (x_i8 78 (by decide +kernel) rfl), (x_in 99 (by decide +kernel) rfl), (RX12, TX12, 54), rfl, rfl⟩
theorem klX12_431 : x_lkV RX12 431 mX12_lies 0 10 := ⟨⟨x_i8 80 (by decide +kernel) rfl, kiX12, kcX12_lies, ⟨by decide +kernel, by decide +kernel, by decide +kernel⟩, by decide⟩, (x_i8 82 (by decide +kernel) rfl), (x_in 100 (by decide +kernel) rfl), (RX12, TX12, 54), rfl, rfl⟩
theorem klX12_434 : x_lkV RX12 434 mX12_facts 0 10 := ⟨⟨x_i8 84 (by decide +kernel) rfl, kiX12, kcX12_facts, ⟨by decide +kernel, by decide +kernel, by decide +kernel⟩, by decide⟩, (x_i8 86 (by decide +kernel) rfl), (x_in 101 (by decide +kernel) rfl), (RX12, TX12, 54), rfl, rfl⟩
theorem klX12_437 : x_lkV RX12 437 mX12_factOf 2 10 := ⟨⟨x_i8 88 (by decide +kernel) rfl, kiX12, kcX12_factOf, ⟨by decide +kernel, by decide +kernel, by decide +kernel⟩, by decide⟩, (x_i8 90 (by decide +kernel) rfl), (x_in 102 (by decide +kernel) rfl), (RX12, TX12, 54), rfl, rfl⟩
theorem klL_83 : x_lkV RL 83 mX12_fits 2 10 := ⟨⟨x_i8 92 (by decide +kernel) rfl, kiX12, kcX12_fits, ⟨by decide +kernel, by decide +kernel, by decide +kernel⟩, by decide⟩, (x_i8 93 (by decide +kernel) rfl), (x_i8 94 (by decide +kernel) rfl), (RX12, TX12, 54), rfl, rfl⟩
theorem klX12_458 : x_lkV RX12 458 mX12_layLog 1 10 := ⟨⟨x_i8 96 (by decide +kernel) rfl, kiX12, kcX12_layLog, ⟨by decide +kernel, by decide +kernel, by decide +kernel⟩, by decide⟩, (x_i8 98 (by decide +kernel) rfl), (x_in 103 (by decide +kernel) rfl), (RX12, TX12, 54), rfl, rfl⟩
theorem klX12_452 : x_lkV RX12 452 mX12_findHearts 0 10 := ⟨⟨x_i8 100 (by decide +kernel) rfl, kiX12, kcX12_findHearts, ⟨by decide +kernel, by decide +kernel, by decide +kernel⟩, by decide⟩, (x_i8 102 (by decide +kernel) rfl), (x_in 104 (by decide +kernel) rfl), (RX12, TX12, 54), rfl, rfl⟩
theorem klX12_449 : x_lkV RX12 449 mX12_liesOf 1 10 := ⟨⟨x_i8 104 (by decide +kernel) rfl, kiX12, kcX12_liesOf, ⟨by decide +kernel, by decide +kernel, by decide +kernel⟩, by decide⟩, (x_i8 106 (by decide +kernel) rfl), (x_in 105 (by decide +kernel) rfl), (RX12, TX12, 54), rfl, rfl⟩
theorem klX12_440 : x_lkS RX12 440 mX12_halts 2 := ⟨⟨x_i8 108 (by decide +kernel) rfl, kiX12, kcX12_halts, ⟨by decide +kernel, by decide +kernel, by decide +kernel⟩, by decide⟩, (x_i8 109 (by decide +kernel) rfl)⟩
theorem klX12_461 : x_lkV RX12 461 mX12_sure 1 10 := ⟨⟨x_i8 111 (by decide +kernel) rfl, kiX12, kcX12_sure, ⟨by decide +kernel, by decide +kernel, by decide +kernel⟩, by decide⟩, (x_i8 113 (by decide +kernel) rfl), (x_in 106 (by decide +kernel) rfl), (RX12, TX12, 54), rfl, rfl⟩
theorem klX12_455 : x_lkV RX12 455 mX12_manyHalt 1 10 := ⟨⟨x_i8 115 (by decide +kernel) rfl, kiX12, kcX12_manyHalt, ⟨by decide +kernel, by decide +kernel, by decide +kernel⟩, by decide⟩, (x_i8 117 (by decide +kernel) rfl), (x_in 107 (by decide +kernel) rfl), (RX12, TX12, 54), rfl, rfl⟩
theorem klX12_464 : x_lkV RX12 464 mX12_askWhat 0 10 := ⟨⟨x_i8 119 (by decide +kernel) rfl, kiX12, kcX12_askWhat, ⟨by decide +kernel, by decide +kernel, by decide +kernel⟩, by decide⟩, (x_i8 121 (by decide +kernel) rfl), (x_in 108 (by decide +kernel) rfl), (RX12, TX12, 54), rfl, rfl⟩
theorem klL_87 : x_lkV RL 87 mX12_drawn 4 10 := ⟨⟨x_i8 123 (by decide +kernel) rfl, kiX12, kcX12_drawn, ⟨by decide +kernel, by decide +kernel, by decide +kernel⟩, by decide⟩, (x_i8 124 (by decide +kernel) rfl), (x_i8 125 (by decide +kernel) rfl), (RX12, TX12, 54), rfl, rfl⟩
theorem klX12_474 : x_lkV RX12 474 mX12_drawDeed 0 10 := ⟨⟨x_i8 127 (by decide +kernel) rfl, kiX12, kcX12_drawDeed, ⟨by decide +kernel, by decide +kernel, by decide +kernel⟩, by decide⟩, (x_i8 129 (by decide +kernel) rfl), (x_in 109 (by decide +kernel) rfl), (RX12, TX12, 54), rfl, rfl⟩
theorem klX12_471 : x_lkV RX12 471 mX12_draw 1 10 := ⟨⟨x_i8 131 (by decide +kernel) rfl, kiX12, kcX12_draw, ⟨by decide +kernel, by decide +kernel, by decide +kernel⟩, by decide⟩, (x_i8 133 (by decide +kernel) rfl), (x_in 110 (by decide +kernel) rfl), (RX12, TX12, 54), rfl, rfl⟩
theorem klL_91 : x_lkV RL 91 mX12_upright 2 10 := ⟨⟨x_i8 136 (by decide +kernel) rfl, kiX12, kcX12_upright, ⟨by decide +kernel, by decide +kernel, by decide +kernel⟩, by decide⟩, (x_i8 137 (by decide +kernel) rfl), (x_i8 138 (by decide +kernel) rfl), (RX12, TX12, 54), rfl, rfl⟩
theorem klX12_486 : x_lkV RX12 486 mX12_clean 0 10 := ⟨⟨x_i8 140 (by decide +kernel) rfl, kiX12, kcX12_clean, ⟨by decide +kernel, by decide +kernel, by decide +kernel⟩, by decide⟩, (x_i8 142 (by decide +kernel) rfl), (x_in 111 (by decide +kernel) rfl), (RX12, TX12, 54), rfl, rfl⟩
theorem klX12_489 : x_lkV RX12 489 mX12_worst 0 10 := ⟨⟨x_i8 144 (by decide +kernel) rfl, kiX12, kcX12_worst, ⟨by decide +kernel, by decide +kernel, by decide +kernel⟩, by decide⟩, (x_i8 146 (by decide +kernel) rfl), (x_in 112 (by decide +kernel) rfl), (RX12, TX12, 54), rfl, rfl⟩
theorem klX12_492 : x_lkV RX12 492 mX12_mostKind 0 10 := ⟨⟨x_i8 148 (by decide +kernel) rfl, kiX12, kcX12_mostKind, ⟨by decide +kernel, by decide +kernel, by decide +kernel⟩, by decide⟩, (x_i8 150 (by decide +kernel) rfl), (x_in 113 (by decide +kernel) rfl), (RX12, TX12, 54), rfl, rfl⟩
theorem klX12_495 : x_lkV RX12 495 mX12_heard 0 10 := ⟨⟨x_i8 152 (by decide +kernel) rfl, kiX12, kcX12_heard, ⟨by decide +kernel, by decide +kernel, by decide +kernel⟩, by decide⟩, (x_i8 154 (by decide +kernel) rfl), (x_in 114 (by decide +kernel) rfl), (RX12, TX12, 54), rfl, rfl⟩
theorem klX12_498 : x_lkV RX12 498 mX12_idle 0 10 := ⟨⟨x_i8 156 (by decide +kernel) rfl, kiX12, kcX12_idle, ⟨by decide +kernel, by decide +kernel, by decide +kernel⟩, by decide⟩, (x_i8 158 (by decide +kernel) rfl), (x_in 115 (by decide +kernel) rfl), (RX12, TX12, 54), rfl, rfl⟩
theorem klX12_477 : x_lkV RX12 477 mX12_offendersBut 1 10 := ⟨⟨x_i8 160 (by decide +kernel) rfl, kiX12, kcX12_offendersBut, ⟨by decide +kernel, by decide +kernel, by decide +kernel⟩, by decide⟩, (x_i8 162 (by decide +kernel) rfl), (x_in 116 (by decide +kernel) rfl), (RX12, TX12, 54), rfl, rfl⟩
theorem klX12_501 : x_lkV RX12 501 mX12_tree 0 10 := ⟨⟨x_i8 164 (by decide +kernel) rfl, kiX12, kcX12_tree, ⟨by decide +kernel, by decide +kernel, by decide +kernel⟩, by decide⟩, (x_i8 166 (by decide +kernel) rfl), (x_in 117 (by decide +kernel) rfl), (RX12, TX12, 54), rfl, rfl⟩
theorem klX12_483 : x_lkV RX12 483 mX12_fromJoined 2 10 := ⟨⟨x_i8 168 (by decide +kernel) rfl, kiX12, kcX12_fromJoined, ⟨by decide +kernel, by decide +kernel, by decide +kernel⟩, by decide⟩, (x_i8 170 (by decide +kernel) rfl), (x_in 118 (by decide +kernel) rfl), (RX12, TX12, 54), rfl, rfl⟩
theorem klX12_480 : x_lkV RX12 480 mX12_between 2 10 := ⟨⟨x_i8 172 (by decide +kernel) rfl, kiX12, kcX12_between, ⟨by decide +kernel, by decide +kernel, by decide +kernel⟩, by decide⟩, (x_i8 174 (by decide +kernel) rfl), (x_in 119 (by decide +kernel) rfl), (RX12, TX12, 54), rfl, rfl⟩
theorem klX12_504 : x_lkV RX12 504 mX12_nearest 1 10 := ⟨⟨x_i8 176 (by decide +kernel) rfl, kiX12, kcX12_nearest, ⟨by decide +kernel, by decide +kernel, by decide +kernel⟩, by decide⟩, (x_i8 178 (by decide +kernel) rfl), (x_in 120 (by decide +kernel) rfl), (RX12, TX12, 54), rfl, rfl⟩
theorem klX12_508 : x_lkV RX12 508 mX12_broad 1 10 := ⟨⟨x_i8 180 (by decide +kernel) rfl, kiX12, kcX12_broad, ⟨by decide +kernel, by decide +kernel, by decide +kernel⟩, by decide⟩, (x_i8 182 (by decide +kernel) rfl), (x_in 121 (by decide +kernel) rfl), (RX12, TX12, 54), rfl, rfl⟩
theorem klL_95 : x_lkV RL 95 mX12_share 3 10 := ⟨⟨x_i8 184 (by decide +kernel) rfl, kiX12, kcX12_share, ⟨by decide +kernel, by decide +kernel, by decide +kernel⟩, by decide⟩, (x_i8 185 (by decide +kernel) rfl), (x_i8 186 (by decide +kernel) rfl), (RX12, TX12, 54), rfl, rfl⟩
theorem klL_99 : x_lkV RL 99 mX12_walk 3 10 := ⟨⟨x_i8 188 (by decide +kernel) rfl, kiX12, kcX12_walk, ⟨by decide +kernel, by decide +kernel, by decide +kernel⟩, by decide⟩, (x_i8 189 (by decide +kernel) rfl), (x_i8 190 (by decide +kernel) rfl), (RX12, TX12, 54), rfl, rfl⟩
theorem klL_103 : x_lkV RL 103 mX12_forget 2 10 := ⟨⟨x_i8 192 (by decide +kernel) rfl, kiX12, kcX12_forget, ⟨by decide +kernel, by decide +kernel, by decide +kernel⟩, by decide⟩, (x_i8 193 (by decide +kernel) rfl), (x_i8 194 (by decide +kernel) rfl), (RX12, TX12, 54), rfl, rfl⟩
theorem klL_107 : x_lkV RL 107 mX12_round 2 10 := ⟨⟨x_i8 196 (by decide +kernel) rfl, kiX12, kcX12_round, ⟨by decide +kernel, by decide +kernel, by decide +kernel⟩, by decide⟩, (x_i8 197 (by decide +kernel) rfl), (x_i8 198 (by decide +kernel) rfl), (RX12, TX12, 54), rfl, rfl⟩
theorem klX12_511 : x_lkV RX12 511 mX12_roundBy 3 10 := ⟨⟨x_i8 200 (by decide +kernel) rfl, kiX12, kcX12_roundBy, ⟨by decide +kernel, by decide +kernel, by decide +kernel⟩, by decide⟩, (x_i8 202 (by decide +kernel) rfl), (x_in 122 (by decide +kernel) rfl), (RX12, TX12, 54), rfl, rfl⟩
theorem klL_111 : x_lkV RL 111 mX12_centre 2 10 := ⟨⟨x_i8 204 (by decide +kernel) rfl, kiX12, kcX12_centre, ⟨by decide +kernel, by decide +kernel, by decide +kernel⟩, by decide⟩, (x_i8 205 (by decide +kernel) rfl), (x_i8 206 (by decide +kernel) rfl), (RX12, TX12, 54), rfl, rfl⟩
theorem klX12_514 : x_lkV RX12 514 mX12_middle 1 10 := ⟨⟨x_i8 208 (by decide +kernel) rfl, kiX12, kcX12_middle, ⟨by decide +kernel, by decide +kernel, by decide +kernel⟩, by decide⟩, (x_i8 210 (by decide +kernel) rfl), (x_in 123 (by decide +kernel) rfl), (RX12, TX12, 54), rfl, rfl⟩
theorem klX12_517 : x_lkV RX12 517 mX12_spot 1 10 := ⟨⟨x_i8 212 (by decide +kernel) rfl, kiX12, kcX12_spot, ⟨by decide +kernel, by decide +kernel, by decide +kernel⟩, by decide⟩, (x_i8 214 (by decide +kernel) rfl), (x_in 124 (by decide +kernel) rfl), (RX12, TX12, 54), rfl, rfl⟩
theorem klX12_520 : x_lkV RX12 520 mX12_twins 0 10 := ⟨⟨x_i8 216 (by decide +kernel) rfl, kiX12, kcX12_twins, ⟨by decide +kernel, by decide +kernel, by decide +kernel⟩, by decide⟩, (x_i8 218 (by decide +kernel) rfl), (x_in 125 (by decide +kernel) rfl), (RX12, TX12, 54), rfl, rfl⟩
theorem klX12_523 : x_lkV RX12 523 mX12_grace 0 10 := ⟨⟨x_i8 220 (by decide +kernel) rfl, kiX12, kcX12_grace, ⟨by decide +kernel, by decide +kernel, by decide +kernel⟩, by decide⟩, (x_i8 222 (by decide +kernel) rfl), (x_in 126 (by decide +kernel) rfl), (RX12, TX12, 54), rfl, rfl⟩
theorem klX12_526 : x_lkV RX12 526 mX12_deaf 0 10 := ⟨⟨x_i8 224 (by decide +kernel) rfl, kiX12, kcX12_deaf, ⟨by decide +kernel, by decide +kernel, by decide +kernel⟩, by decide⟩, (x_i8 226 (by decide +kernel) rfl), (x_in 127 (by decide +kernel) rfl), (RX12, TX12, 54), rfl, rfl⟩
theorem klL_115 : x_lkV RL 115 mX12_ring 2 10 := ⟨⟨x_i8 228 (by decide +kernel) rfl, kiX12, kcX12_ring, ⟨by decide +kernel, by decide +kernel, by decide +kernel⟩, by decide⟩, (x_i8 229 (by decide +kernel) rfl), (x_i8 230 (by decide +kernel) rfl), (RX12, TX12, 54), rfl, rfl⟩
theorem klL_119 : x_lkV RL 119 mX12_ladder 2 10 := ⟨⟨x_i8 232 (by decide +kernel) rfl, kiX12, kcX12_ladder, ⟨by decide +kernel, by decide +kernel, by decide +kernel⟩, by decide⟩, (x_i8 233 (by decide +kernel) rfl), (x_i8 234 (by decide +kernel) rfl), (RX12, TX12, 54), rfl, rfl⟩
theorem klX12_532 : x_lkV RX12 532 mX12_findRungs 0 10 := ⟨⟨x_i8 236 (by decide +kernel) rfl, kiX12, kcX12_findRungs, ⟨by decide +kernel, by decide +kernel, by decide +kernel⟩, by decide⟩, (x_i8 238 (by decide +kernel) rfl), (x_in 128 (by decide +kernel) rfl), (RX12, TX12, 54), rfl, rfl⟩
theorem klX12_529 : x_lkV RX12 529 mX12_isRung 2 10 := ⟨⟨x_i9 0 (by decide +kernel) rfl, kiX12, kcX12_isRung, ⟨by decide +kernel, by decide +kernel, by decide +kernel⟩, by decide⟩, (x_i9 2 (by decide +kernel) rfl), (x_in 129 (by decide +kernel) rfl), (RX12, TX12, 54), rfl, rfl⟩
theorem klL_123 : x_lkV RL 123 mX12_next 2 10 := ⟨⟨x_i9 4 (by decide +kernel) rfl, kiX12, kcX12_next, ⟨by decide +kernel, by decide +kernel, by decide +kernel⟩, by decide⟩, (x_i9 5 (by decide +kernel) rfl), (x_i9 6 (by decide +kernel) rfl), (RX12, TX12, 54), rfl, rfl⟩
theorem klL_127 : x_lkV RL 127 mX12_purse 3 10 := ⟨⟨x_i9 8 (by decide +kernel) rfl, kiX12, kcX12_purse, ⟨by decide +kernel, by decide +kernel, by decide +kernel⟩, by decide⟩, (x_i9 9 (by decide +kernel) rfl), (x_i9 10 (by decide +kernel) rfl), (RX12, TX12, 54), rfl, rfl⟩
theorem klL_132 : x_lkV RL 132 mX12_calm 3 10 := ⟨⟨x_i9 12 (by decide +kernel) rfl, kiX12, kcX12_calm, ⟨by decide +kernel, by decide +kernel, by decide +kernel⟩, by decide⟩, (x_i9 13 (by decide +kernel) rfl), (x_i9 14 (by decide +kernel) rfl), (RX12, TX12, 54), rfl, rfl⟩
theorem klX12_539 : x_lkS RX12 539 mX12_times 2 := ⟨⟨x_i9 18 (by decide +kernel) rfl, kiX12, kcX12_times, ⟨by decide +kernel, by decide +kernel, by decide +kernel⟩, by decide⟩, (x_i9 19 (by decide +kernel) rfl)⟩
theorem klX12_543 : x_lkS RX12 543 mX12_partL 3 := ⟨⟨x_i9 21 (by decide +kernel) rfl, kiX12, kcX12_partL, ⟨by decide +kernel, by decide +kernel, by decide +kernel⟩, by decide⟩, (x_i9 22 (by decide +kernel) rfl)⟩
theorem klX12_360 : x_lkS RX12 360 mX12_commonL 2 := ⟨⟨x_i9 24 (by decide +kernel) rfl, kiX12, kcX12_commonL, ⟨by decide +kernel, by decide +kernel, by decide +kernel⟩, by decide⟩, (x_i9 25 (by decide +kernel) rfl)⟩
theorem klL_136 : x_lkV RL 136 mX12_plays 2 10 := ⟨⟨x_i9 27 (by decide +kernel) rfl, kiX12, kcX12_plays, ⟨by decide +kernel, by decide +kernel, by decide +kernel⟩, by decide⟩, (x_i9 28 (by decide +kernel) rfl), (x_i9 29 (by decide +kernel) rfl), (RX12, TX12, 54), rfl, rfl⟩
theorem klL_140 : x_lkV RL 140 mX12_guess 3 10 := ⟨⟨x_i9 31 (by decide +kernel) rfl, kiX12, kcX12_guess, ⟨by decide +kernel, by decide +kernel, by decide +kernel⟩, by decide⟩, (x_i9 32 (by decide +kernel) rfl), (x_i9 33 (by decide +kernel) rfl), (RX12, TX12, 54), rfl, rfl⟩
theorem klX12_547 : x_lkS RX12 547 mX12_choose 2 := ⟨⟨x_i9 35 (by decide +kernel) rfl, kiX12, kcX12_choose, ⟨by decide +kernel, by decide +kernel, by decide +kernel⟩, by decide⟩, (x_i9 36 (by decide +kernel) rfl)⟩
theorem klL_144 : x_lkV RL 144 mX12_after 3 10 := ⟨⟨x_i9 38 (by decide +kernel) rfl, kiX12, kcX12_after, ⟨by decide +kernel, by decide +kernel, by decide +kernel⟩, by decide⟩, (x_i9 39 (by decide +kernel) rfl), (x_i9 40 (by decide +kernel) rfl), (RX12, TX12, 54), rfl, rfl⟩
theorem klL_148 : x_lkV RL 148 mX12_odds 3 10 := ⟨⟨x_i9 42 (by decide +kernel) rfl, kiX12, kcX12_odds, ⟨by decide +kernel, by decide +kernel, by decide +kernel⟩, by decide⟩, (x_i9 43 (by decide +kernel) rfl), (x_i9 44 (by decide +kernel) rfl), (RX12, TX12, 54), rfl, rfl⟩
theorem klL_152 : x_lkV RL 152 mX12_small 2 10 := ⟨⟨x_i9 46 (by decide +kernel) rfl, kiX12, kcX12_small, ⟨by decide +kernel, by decide +kernel, by decide +kernel⟩, by decide⟩, (x_i9 47 (by decide +kernel) rfl), (x_i9 48 (by decide +kernel) rfl), (RX12, TX12, 54), rfl, rfl⟩
theorem klX12_554 : x_lkV RX12 554 mX12_sizeOf 1 10 := ⟨⟨x_i9 50 (by decide +kernel) rfl, kiX12, kcX12_sizeOf, ⟨by decide +kernel, by decide +kernel, by decide +kernel⟩, by decide⟩, (x_i9 52 (by decide +kernel) rfl), (x_in 130 (by decide +kernel) rfl), (RX12, TX12, 54), rfl, rfl⟩
theorem klX12_557 : x_lkV RX12 557 mX12_fewestLies 0 10 := ⟨⟨x_i9 54 (by decide +kernel) rfl, kiX12, kcX12_fewestLies, ⟨by decide +kernel, by decide +kernel, by decide +kernel⟩, by decide⟩, (x_i9 56 (by decide +kernel) rfl), (x_in 131 (by decide +kernel) rfl), (RX12, TX12, 54), rfl, rfl⟩
theorem klX12_560 : x_lkV RX12 560 mX12_needless 0 10 := ⟨⟨x_i9 58 (by decide +kernel) rfl, kiX12, kcX12_needless, ⟨by decide +kernel, by decide +kernel, by decide +kernel⟩, by decide⟩, (x_i9 60 (by decide +kernel) rfl), (x_in 132 (by decide +kernel) rfl), (RX12, TX12, 54), rfl, rfl⟩
theorem klX12_551 : x_lkV RX12 551 mX12_isNeedless 1 10 := ⟨⟨x_i9 62 (by decide +kernel) rfl, kiX12, kcX12_isNeedless, ⟨by decide +kernel, by decide +kernel, by decide +kernel⟩, by decide⟩, (x_i9 64 (by decide +kernel) rfl), (x_in 133 (by decide +kernel) rfl), (RX12, TX12, 54), rfl, rfl⟩
theorem klL_156 : x_lkV RL 156 mX12_count 1 10 := ⟨⟨x_i9 66 (by decide +kernel) rfl, kiX12, kcX12_count, ⟨by decide +kernel, by decide +kernel, by decide +kernel⟩, by decide⟩, (x_i9 67 (by decide +kernel) rfl), (x_i9 68 (by decide +kernel) rfl), (RX12, TX12, 54), rfl, rfl⟩
theorem klL_161 : x_lkV RL 161 mX12_image 1 10 := ⟨⟨x_i9 70 (by decide +kernel) rfl, kiX12, kcX12_image, ⟨by decide +kernel, by decide +kernel, by decide +kernel⟩, by decide⟩, (x_i9 71 (by decide +kernel) rfl), (x_i9 72 (by decide +kernel) rfl), (RX12, TX12, 54), rfl, rfl⟩
theorem klX12_563 : x_lkV RX12 563 mX12_copyAll 2 10 := ⟨⟨x_i9 74 (by decide +kernel) rfl, kiX12, kcX12_copyAll, ⟨by decide +kernel, by decide +kernel, by decide +kernel⟩, by decide⟩, (x_i9 76 (by decide +kernel) rfl), (x_in 134 (by decide +kernel) rfl), (RX12, TX12, 54), rfl, rfl⟩
theorem klX12_80 : x_lkS RX12 80 mX12_copyRow 4 := ⟨⟨x_i9 78 (by decide +kernel) rfl, kiX12, kcX12_copyRow, ⟨by decide +kernel, by decide +kernel, by decide +kernel⟩, by decide⟩, (x_i9 79 (by decide +kernel) rfl)⟩
theorem klL_165 : x_lkV RL 165 mX12_again 1 10 := ⟨⟨x_i9 81 (by decide +kernel) rfl, kiX12, kcX12_again, ⟨by decide +kernel, by decide +kernel, by decide +kernel⟩, by decide⟩, (x_i9 82 (by decide +kernel) rfl), (x_i9 83 (by decide +kernel) rfl), (RX12, TX12, 54), rfl, rfl⟩
theorem kqL_7 : Cond.classLink RL 7 RX11 ∈ x_WS := (x_i1 23 (by decide +kernel) rfl)
theorem knL_7 : x_new RL 7 9 [.null, .null, .null, .null, .null, .null, .null, .null] := ⟨(RX11, TX11, 8), rfl, kqL_7, (x_i1 24 (by decide +kernel) rfl), kiX11, rfl, by decide +kernel, by decide⟩
theorem kqX11_7 : Cond.classLink RX11 7 RX9 ∈ x_WS := (x_i1 31 (by decide +kernel) rfl)
theorem knX11_7 : x_new RX11 7 7 [.null, .int 0, .int 0, .int 0, .null, .null, .null, .null] := ⟨(RX9, TX9, 8), rfl, kqX11_7, (x_i1 32 (by decide +kernel) rfl), kiX9, rfl, by decide +kernel, by decide⟩
theorem kqX9_23 : Cond.classLink RX9 23 RX2 ∈ x_WS := (x_i1 37 (by decide +kernel) rfl)
theorem knX9_23 : x_new RX9 23 2 [.int 0, .int 0, .int 0, .int 0, .int 0, .int 0, .int 0, .null, .null, .null, .null, .null] := ⟨(RX2, TX2, 12), rfl, kqX9_23, (x_i1 43 (by decide +kernel) rfl), kiX2, rfl, by decide +kernel, by decide⟩
theorem kqX9_29 : Cond.classLink RX9 29 RX1 ∈ x_WS := (x_i1 39 (by decide +kernel) rfl)
theorem knX9_29 : x_new RX9 29 1 [.int 0, .null] := ⟨(RX1, TX1, 2), rfl, kqX9_29, (x_i1 111 (by decide +kernel) rfl), kiX1, rfl, by decide +kernel, by decide⟩
theorem kqX9_35 : Cond.classLink RX9 35 RX4 ∈ x_WS := (x_i1 41 (by decide +kernel) rfl)
theorem knX9_35 : x_new RX9 35 4 [.int 0, .int 0, .null, .null] := ⟨(RX4, TX4, 4), rfl, kqX9_35, (x_i1 125 (by decide +kernel) rfl), kiX4, rfl, by decide +kernel, by decide⟩
theorem kqX11_24 : Cond.classLink RX11 24 RX6 ∈ x_WS := (x_i1 180 (by decide +kernel) rfl)
theorem knX11_24 : x_new RX11 24 5 [.null, .null, .null, .int 0, .int 0, .null, .int 0, .null, .int 0, .int 0, .int 0, .int 0, .int 0] := ⟨(RX6, TX6, 13), rfl, kqX11_24, (x_i1 181 (by decide +kernel) rfl), kiX6, rfl, by decide +kernel, by decide⟩
theorem kqX6_9 : Cond.classLink RX6 9 RX2 ∈ x_WS := (x_i1 186 (by decide +kernel) rfl)
theorem knX6_9 : x_new RX6 9 2 [.int 0, .int 0, .int 0, .int 0, .int 0, .int 0, .int 0, .null, .null, .null, .null, .null] := ⟨(RX2, TX2, 12), rfl, kqX6_9, (x_i1 43 (by decide +kernel) rfl), kiX2, rfl, by decide +kernel, by decide⟩
theorem kqX6_18 : Cond.classLink RX6 18 RX1 ∈ x_WS := (x_i1 188 (by decide +kernel) rfl)
theorem knX6_18 : x_new RX6 18 1 [.int 0, .null] := ⟨(RX1, TX1, 2), rfl, kqX6_18, (x_i1 111 (by decide +kernel) rfl), kiX1, rfl, by decide +kernel, by decide⟩
theorem kqX6_25 : Cond.classLink RX6 25 RX4 ∈ x_WS := (x_i1 190 (by decide +kernel) rfl)
theorem knX6_25 : x_new RX6 25 4 [.int 0, .int 0, .null, .null] := ⟨(RX4, TX4, 4), rfl, kqX6_25, (x_i1 125 (by decide +kernel) rfl), kiX4, rfl, by decide +kernel, by decide⟩
theorem kqX11_31 : Cond.classLink RX11 31 RX7 ∈ x_WS := (x_i1 238 (by decide +kernel) rfl)
theorem knX11_31 : x_new RX11 31 6 [.null, .int 0, .int 0, .int 0, .int 0, .int 0, .int 0, .int 0, .int 0, .int 0, .int 0, .int 0, .int 0, .int 0, .null] := ⟨(RX7, TX7, 15), rfl, kqX11_31, (x_i1 239 (by decide +kernel) rfl), kiX7, rfl, by decide +kernel, by decide⟩
theorem kqX7_9 : Cond.classLink RX7 9 RX2 ∈ x_WS := (x_i2 4 (by decide +kernel) rfl)
theorem knX7_9 : x_new RX7 9 2 [.int 0, .int 0, .int 0, .int 0, .int 0, .int 0, .int 0, .null, .null, .null, .null, .null] := ⟨(RX2, TX2, 12), rfl, kqX7_9, (x_i1 43 (by decide +kernel) rfl), kiX2, rfl, by decide +kernel, by decide⟩
theorem kqX11_38 : Cond.classLink RX11 38 RX10 ∈ x_WS := (x_i2 52 (by decide +kernel) rfl)
theorem knX11_38 : x_new RX11 38 8 [.null, .null, .null, .null, .null, .null, .int 0, .int 0] := ⟨(RX10, TX10, 8), rfl, kqX11_38, (x_i2 53 (by decide +kernel) rfl), kiX10, rfl, by decide +kernel, by decide⟩
theorem kqX11_45 : Cond.classLink RX11 45 RX3 ∈ x_WS := (x_i2 85 (by decide +kernel) rfl)
theorem knX11_45 : x_new RX11 45 3 [.null, .null, .null, .null, .null, .int 0] := ⟨(RX3, TX3, 6), rfl, kqX11_45, (x_i2 86 (by decide +kernel) rfl), kiX3, rfl, by decide +kernel, by decide⟩
theorem kqX11_52 : Cond.classLink RX11 52 RX0 ∈ x_WS := (x_i2 111 (by decide +kernel) rfl)
theorem knX11_52 : x_new RX11 52 0 [.null] := ⟨(RX0, TX0, 1), rfl, kqX11_52, (x_i2 112 (by decide +kernel) rfl), kiX0, rfl, by decide +kernel, by decide⟩
theorem kqL_10 : Cond.classLink RL 10 RX12 ∈ x_WS := (x_i6 54 (by decide +kernel) rfl)
theorem knL_10 : x_new RL 10 10 [.int 0, .null, .null, .null, .null, .null, .null, .null, .null, .int 0, .int 0, .int 0, .int 0, .int 0, .long 0, .int 0, .int 0, .int 0, .null, .null, .int 0, .int 0, .int 0, .int 0, .int 0, .int 0, .int 0, .int 0, .int 0, .int 0, .int 0, .int 0, .int 0, .int 0, .int 0, .int 0, .int 0, .null, .null, .null, .int 0, .null, .null, .null, .int 0, .null, .int 0, .int 0, .null, .int 0, .int 0, .int 0, .null, .null] := ⟨(RX12, TX12, 54), rfl, kqL_10, (x_i6 55 (by decide +kernel) rfl), kiX12, rfl, by decide +kernel, by decide⟩
theorem koX11_1 : Cond.methodLink RX11 1 Lib.objectInit ∈ x_WS ∧ Cond.instanceMethod Lib.objectInit ∈ x_WS ∧ Cond.code Lib.objectInit ⟨#[0xb1]⟩ 1 none ∈ x_WS := ⟨x_i1 28 (by decide +kernel) rfl, x_i1 29 (by decide +kernel) rfl, x_i1 30 (by decide +kernel) rfl⟩
theorem koX9_3 : Cond.methodLink RX9 3 Lib.objectInit ∈ x_WS ∧ Cond.instanceMethod Lib.objectInit ∈ x_WS ∧ Cond.code Lib.objectInit ⟨#[0xb1]⟩ 1 none ∈ x_WS := ⟨x_i1 36 (by decide +kernel) rfl, x_i1 29 (by decide +kernel) rfl, x_i1 30 (by decide +kernel) rfl⟩
theorem koX2_3 : Cond.methodLink RX2 3 Lib.objectInit ∈ x_WS ∧ Cond.instanceMethod Lib.objectInit ∈ x_WS ∧ Cond.code Lib.objectInit ⟨#[0xb1]⟩ 1 none ∈ x_WS := ⟨x_i1 47 (by decide +kernel) rfl, x_i1 29 (by decide +kernel) rfl, x_i1 30 (by decide +kernel) rfl⟩
theorem koX1_3 : Cond.methodLink RX1 3 Lib.objectInit ∈ x_WS ∧ Cond.instanceMethod Lib.objectInit ∈ x_WS ∧ Cond.code Lib.objectInit ⟨#[0xb1]⟩ 1 none ∈ x_WS := ⟨x_i1 115 (by decide +kernel) rfl, x_i1 29 (by decide +kernel) rfl, x_i1 30 (by decide +kernel) rfl⟩
theorem koX4_3 : Cond.methodLink RX4 3 Lib.objectInit ∈ x_WS ∧ Cond.instanceMethod Lib.objectInit ∈ x_WS ∧ Cond.code Lib.objectInit ⟨#[0xb1]⟩ 1 none ∈ x_WS := ⟨x_i1 129 (by decide +kernel) rfl, x_i1 29 (by decide +kernel) rfl, x_i1 30 (by decide +kernel) rfl⟩
theorem koX6_3 : Cond.methodLink RX6 3 Lib.objectInit ∈ x_WS ∧ Cond.instanceMethod Lib.objectInit ∈ x_WS ∧ Cond.code Lib.objectInit ⟨#[0xb1]⟩ 1 none ∈ x_WS := ⟨x_i1 185 (by decide +kernel) rfl, x_i1 29 (by decide +kernel) rfl, x_i1 30 (by decide +kernel) rfl⟩
theorem koX7_3 : Cond.methodLink RX7 3 Lib.objectInit ∈ x_WS ∧ Cond.instanceMethod Lib.objectInit ∈ x_WS ∧ Cond.code Lib.objectInit ⟨#[0xb1]⟩ 1 none ∈ x_WS := ⟨x_i2 3 (by decide +kernel) rfl, x_i1 29 (by decide +kernel) rfl, x_i1 30 (by decide +kernel) rfl⟩
theorem koX10_3 : Cond.methodLink RX10 3 Lib.objectInit ∈ x_WS ∧ Cond.instanceMethod Lib.objectInit ∈ x_WS ∧ Cond.code Lib.objectInit ⟨#[0xb1]⟩ 1 none ∈ x_WS := ⟨x_i2 57 (by decide +kernel) rfl, x_i1 29 (by decide +kernel) rfl, x_i1 30 (by decide +kernel) rfl⟩
theorem koX3_3 : Cond.methodLink RX3 3 Lib.objectInit ∈ x_WS ∧ Cond.instanceMethod Lib.objectInit ∈ x_WS ∧ Cond.code Lib.objectInit ⟨#[0xb1]⟩ 1 none ∈ x_WS := ⟨x_i2 90 (by decide +kernel) rfl, x_i1 29 (by decide +kernel) rfl, x_i1 30 (by decide +kernel) rfl⟩
theorem koX0_3 : Cond.methodLink RX0 3 Lib.objectInit ∈ x_WS ∧ Cond.instanceMethod Lib.objectInit ∈ x_WS ∧ Cond.code Lib.objectInit ⟨#[0xb1]⟩ 1 none ∈ x_WS := ⟨x_i2 116 (by decide +kernel) rfl, x_i1 29 (by decide +kernel) rfl, x_i1 30 (by decide +kernel) rfl⟩
theorem kaX6_43 : Cond.methodLink RX6 43 arraycopyName ∈ x_WS ∧ Cond.native arraycopyName ∈ x_WS ∧ Cond.static arraycopyName ∈ x_WS ∧ Cond.initialized "java/lang/System" ∈ x_WS := ⟨x_i2 177 (by decide +kernel) rfl, x_i2 179 (by decide +kernel) rfl, x_i2 178 (by decide +kernel) rfl, (x_i1 13 (by decide +kernel) rfl)⟩
theorem ksX6_196 : Cond.fieldLink RX6 196 RX6 "FIRST" "[I" ∈ x_WS := x_i2 224 (by decide +kernel) rfl
theorem ksX6_103 : Cond.fieldLink RX6 103 RX6 "GIVEN" "[I" ∈ x_WS := x_i3 70 (by decide +kernel) rfl
theorem ksX6_114 : Cond.fieldLink RX6 114 RX6 "LOWEST" "[I" ∈ x_WS := x_i3 72 (by decide +kernel) rfl
theorem ksX6_117 : Cond.fieldLink RX6 117 RX6 "GREATEST" "[I" ∈ x_WS := x_i3 74 (by decide +kernel) rfl
theorem kaX2_55 : Cond.methodLink RX2 55 arraycopyName ∈ x_WS ∧ Cond.native arraycopyName ∈ x_WS ∧ Cond.static arraycopyName ∈ x_WS ∧ Cond.initialized "java/lang/System" ∈ x_WS := ⟨x_i3 123 (by decide +kernel) rfl, x_i2 179 (by decide +kernel) rfl, x_i2 178 (by decide +kernel) rfl, (x_i1 13 (by decide +kernel) rfl)⟩
theorem kaX1_19 : Cond.methodLink RX1 19 arraycopyName ∈ x_WS ∧ Cond.native arraycopyName ∈ x_WS ∧ Cond.static arraycopyName ∈ x_WS ∧ Cond.initialized "java/lang/System" ∈ x_WS := ⟨x_i3 128 (by decide +kernel) rfl, x_i2 179 (by decide +kernel) rfl, x_i2 178 (by decide +kernel) rfl, (x_i1 13 (by decide +kernel) rfl)⟩
theorem kaX4_25 : Cond.methodLink RX4 25 arraycopyName ∈ x_WS ∧ Cond.native arraycopyName ∈ x_WS ∧ Cond.static arraycopyName ∈ x_WS ∧ Cond.initialized "java/lang/System" ∈ x_WS := ⟨x_i3 133 (by decide +kernel) rfl, x_i2 179 (by decide +kernel) rfl, x_i2 178 (by decide +kernel) rfl, (x_i1 13 (by decide +kernel) rfl)⟩
theorem kkX8_21 : Cond.constantLong RX8 21 (-1) ∈ x_WS := x_i4 133 (by decide +kernel) rfl
theorem kkJ6_265 : Cond.constant RJ6 265 (1431655765) ∈ x_WS := x_i4 210 (by decide +kernel) rfl
theorem kkJ6_266 : Cond.constant RJ6 266 (858993459) ∈ x_WS := x_i4 211 (by decide +kernel) rfl
theorem kkJ6_267 : Cond.constant RJ6 267 (252645135) ∈ x_WS := x_i4 212 (by decide +kernel) rfl
theorem kkJ13_314 : Cond.constantLong RJ13 314 (6148914691236517205) ∈ x_WS := x_i5 10 (by decide +kernel) rfl
theorem kkJ13_316 : Cond.constantLong RJ13 316 (3689348814741910323) ∈ x_WS := x_i5 11 (by decide +kernel) rfl
theorem kkJ13_318 : Cond.constantLong RJ13 318 (1085102592571150095) ∈ x_WS := x_i5 12 (by decide +kernel) rfl
theorem ksX7_84 : Cond.fieldLink RX7 84 RX7 "BY_LOT" "[I" ∈ x_WS := x_i5 42 (by decide +kernel) rfl
theorem kkX7_83 : Cond.constant RX7 83 (1103515245) ∈ x_WS := x_i5 48 (by decide +kernel) rfl
theorem kkX11_299 : Cond.constantLong RX11 299 (-1) ∈ x_WS := x_i5 220 (by decide +kernel) rfl
theorem kaX9_44 : Cond.methodLink RX9 44 arraycopyName ∈ x_WS ∧ Cond.native arraycopyName ∈ x_WS ∧ Cond.static arraycopyName ∈ x_WS ∧ Cond.initialized "java/lang/System" ∈ x_WS := ⟨x_i6 49 (by decide +kernel) rfl, x_i2 179 (by decide +kernel) rfl, x_i2 178 (by decide +kernel) rfl, (x_i1 13 (by decide +kernel) rfl)⟩
theorem koX12_1 : Cond.methodLink RX12 1 Lib.objectInit ∈ x_WS ∧ Cond.instanceMethod Lib.objectInit ∈ x_WS ∧ Cond.code Lib.objectInit ⟨#[0xb1]⟩ 1 none ∈ x_WS := ⟨x_i6 59 (by decide +kernel) rfl, x_i1 29 (by decide +kernel) rfl, x_i1 30 (by decide +kernel) rfl⟩
theorem kkX12_157 : Cond.constantLong RX12 157 (495873781348) ∈ x_WS := x_i7 26 (by decide +kernel) rfl
theorem kkX12_162 : Cond.constantLong RX12 162 (1735353714) ∈ x_WS := x_i7 43 (by decide +kernel) rfl
theorem kkX12_168 : Cond.constantLong RX12 168 (495739563636) ∈ x_WS := x_i7 56 (by decide +kernel) rfl
theorem kkX12_173 : Cond.constantLong RX12 173 (469920277619) ∈ x_WS := x_i7 61 (by decide +kernel) rfl
theorem kkX12_178 : Cond.constantLong RX12 178 (513021013607) ∈ x_WS := x_i7 66 (by decide +kernel) rfl
theorem kkX12_183 : Cond.constantLong RX12 183 (27988542649365363) ∈ x_WS := x_i7 74 (by decide +kernel) rfl
theorem kkX12_188 : Cond.constantLong RX12 188 (1953462126) ∈ x_WS := x_i7 79 (by decide +kernel) rfl
theorem kkX12_193 : Cond.constantLong RX12 193 (1953853029) ∈ x_WS := x_i7 92 (by decide +kernel) rfl
theorem kkX12_195 : Cond.constantLong RX12 195 (6711668) ∈ x_WS := x_i7 93 (by decide +kernel) rfl
theorem kkX12_197 : Cond.constantLong RX12 197 (6386539) ∈ x_WS := x_i7 94 (by decide +kernel) rfl
theorem kkX12_199 : Cond.constantLong RX12 199 (2002873451) ∈ x_WS := x_i7 95 (by decide +kernel) rfl
theorem kkX12_201 : Cond.constantLong RX12 201 (1835363940) ∈ x_WS := x_i7 96 (by decide +kernel) rfl
theorem kkX12_203 : Cond.constantLong RX12 203 (25711) ∈ x_WS := x_i7 97 (by decide +kernel) rfl
theorem kkX12_212 : Cond.constantLong RX12 212 (1818846579) ∈ x_WS := x_i7 105 (by decide +kernel) rfl
theorem kkX12_214 : Cond.constantLong RX12 214 (32497644298331492) ∈ x_WS := x_i7 106 (by decide +kernel) rfl
theorem kkX12_216 : Cond.constantLong RX12 216 (123610794124644) ∈ x_WS := x_i7 107 (by decide +kernel) rfl
theorem kkX12_353 : Cond.constant RX12 353 (1000000) ∈ x_WS := x_i7 222 (by decide +kernel) rfl
theorem kkX12_386 : Cond.constant RX12 386 (-1000000) ∈ x_WS := x_i8 41 (by decide +kernel) rfl
theorem kkX12_470 : Cond.constant RX12 470 (1103515245) ∈ x_WS := x_i8 135 (by decide +kernel) rfl
theorem kkX12_535 : Cond.constantLong RX12 535 (-1) ∈ x_WS := x_i9 16 (by decide +kernel) rfl
theorem kkX12_537 : Cond.constantLong RX12 537 (10) ∈ x_WS := x_i9 17 (by decide +kernel) rfl
theorem ky_int : Cond.arrayClass (newarray.typeOf .int) ∈ x_WS := x_i1 110 (by decide +kernel) rfl
theorem ky_byte : Cond.arrayClass (newarray.typeOf .byte) ∈ x_WS := x_i1 109 (by decide +kernel) rfl
theorem ky_boolean : Cond.arrayClass (newarray.typeOf .boolean) ∈ x_WS := x_i1 237 (by decide +kernel) rfl
