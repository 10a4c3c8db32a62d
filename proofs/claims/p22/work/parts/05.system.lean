abbrev iX0_init : zI := (yX0_init, cX0_init, 2, none)
abbrev iX0_moveTo : zI := (yX0_moveTo, cX0_moveTo, 2, none)
abbrev iX0_pass : zI := (yX0_pass, cX0_pass, 8, none)
abbrev iX0_lit : zI := (yX0_lit, cX0_lit, 6, (some .long))
abbrev iX0_glow : zI := (yX0_glow, cX0_glow, 3, (some .int))
abbrev iX0_light : zI := (yX0_light, cX0_light, 6, (some .long))
abbrev iX0_nextTo : zI := (yX0_nextTo, cX0_nextTo, 2, (some .long))
abbrev iX0_countLanterns : zI := (yX0_countLanterns, cX0_countLanterns, 6, (some .int))
abbrev iX0_road : zI := (yX0_road, cX0_road, 12, (some .int))
abbrev iX0_walked : zI := (yX0_walked, cX0_walked, 8, (some .int))
abbrev iX0_stepped : zI := (yX0_stepped, cX0_stepped, 5, (some .int))
abbrev iX0_settle : zI := (yX0_settle, cX0_settle, 4, none)
abbrev iX0_isFound : zI := (yX0_isFound, cX0_isFound, 3, (some .boolean))
abbrev iX0_isLost : zI := (yX0_isLost, cX0_isLost, 3, (some .boolean))
abbrev iX0_setOut : zI := (yX0_setOut, cX0_setOut, 3, none)
abbrev iX0_hueOf : zI := (yX0_hueOf, cX0_hueOf, 3, (some .int))
abbrev iX0_near : zI := (yX0_near, cX0_near, 5, (some .int))
abbrev iX0_isAtHome : zI := (yX0_isAtHome, cX0_isAtHome, 3, (some .boolean))
abbrev iX0_countAtHome : zI := (yX0_countAtHome, cX0_countAtHome, 4, (some .int))
abbrev iX1_init : zI := (yX1_init, cX1_init, 1, none)
abbrev iX1_add : zI := (yX1_add, cX1_add, 4, none)
abbrev iX1_copyFrom : zI := (yX1_copyFrom, cX1_copyFrom, 2, none)
abbrev iX2_init : zI := (yX2_init, cX2_init, 2, none)
abbrev iX2_push : zI := (yX2_push, cX2_push, 3, none)
abbrev iX2_pop : zI := (yX2_pop, cX2_pop, 3, none)
abbrev iX3_init : zI := (yX3_init, cX3_init, 3, none)
abbrev iX3_behind : zI := (yX3_behind, cX3_behind, 4, (some (.object "MissingLamps$State")))
abbrev iX3_nightsTillHome : zI := (yX3_nightsTillHome, cX3_nightsTillHome, 6, (some .int))
abbrev iX3_leastLosses : zI := (yX3_leastLosses, cX3_leastLosses, 9, (some .int))
abbrev iX3_turnAll : zI := (yX3_turnAll, cX3_turnAll, 3, none)
abbrev iX3_worstFound : zI := (yX3_worstFound, cX3_worstFound, 9, (some .int))
abbrev iX3_leastCover : zI := (yX3_leastCover, cX3_leastCover, 7, (some .int))
abbrev iX3_lightOf : zI := (yX3_lightOf, cX3_lightOf, 5, (some .long))
abbrev iX3_arrange : zI := (yX3_arrange, cX3_arrange, 5, none)
abbrev iX3_measure : zI := (yX3_measure, cX3_measure, 6, none)
abbrev iX3_weigh : zI := (yX3_weigh, cX3_weigh, 6, none)
abbrev iX3_worthWith : zI := (yX3_worthWith, cX3_worthWith, 6, (some .int))
abbrev iX3_firstBest : zI := (yX3_firstBest, cX3_firstBest, 5, (some .int))
abbrev iX3_rowsToHome : zI := (yX3_rowsToHome, cX3_rowsToHome, 8, (some .int))
abbrev iX3_forgetMet : zI := (yX3_forgetMet, cX3_forgetMet, 1, none)
abbrev iX3_takesMet : zI := (yX3_takesMet, cX3_takesMet, 4, (some .boolean))
abbrev iX3_huesLeft : zI := (yX3_huesLeft, cX3_huesLeft, 9, (some .int))
abbrev iX3_lastMetNight : zI := (yX3_lastMetNight, cX3_lastMetNight, 3, (some .int))
abbrev iX3_fitsMet : zI := (yX3_fitsMet, cX3_fitsMet, 5, (some .boolean))
abbrev iX3_findTelling : zI := (yX3_findTelling, cX3_findTelling, 9, none)
abbrev iX3_supposeAll : zI := (yX3_supposeAll, cX3_supposeAll, 6, (some .int))
abbrev iX3_mostAlike : zI := (yX3_mostAlike, cX3_mostAlike, 7, (some .int))
abbrev iX4_init : zI := (yX4_init, cX4_init, 1, none)
abbrev iX4_clear : zI := (yX4_clear, cX4_clear, 1, none)
abbrev iX4_setFirst : zI := (yX4_setFirst, cX4_setFirst, 3, none)
abbrev iX4_hasCell : zI := (yX4_hasCell, cX4_hasCell, 3, (some .boolean))
abbrev iX4_hasFreeCell : zI := (yX4_hasFreeCell, cX4_hasFreeCell, 3, (some .boolean))
abbrev iX4_setSize : zI := (yX4_setSize, cX4_setSize, 4, none)
abbrev iX4_taken : zI := (yX4_taken, cX4_taken, 4, (some .long))
abbrev iX4_thingNamed : zI := (yX4_thingNamed, cX4_thingNamed, 3, (some .int))
abbrev iX4_isNamed : zI := (yX4_isNamed, cX4_isNamed, 3, (some .boolean))
abbrev iX5_init : zI := (yX5_init, cX5_init, 6, none)
abbrev iX5_begin : zI := (yX5_begin, cX5_begin, 3, none)
abbrev iX5_advance : zI := (yX5_advance, cX5_advance, 3, none)
abbrev iX5_readWord : zI := (yX5_readWord, cX5_readWord, 4, none)
abbrev iX5_readNumber : zI := (yX5_readNumber, cX5_readNumber, 3, none)
abbrev iX5_isOwn : zI := (yX5_isOwn, cX5_isOwn, 2, (some .boolean))
abbrev iX5_isSign : zI := (yX5_isSign, cX5_isSign, 2, (some .boolean))
abbrev iX5_faults : zI := (yX5_faults, cX5_faults, 3, (some .boolean))
abbrev iX5_takesOwn : zI := (yX5_takesOwn, cX5_takesOwn, 2, (some .boolean))
abbrev iX5_takesSign : zI := (yX5_takesSign, cX5_takesSign, 2, (some .boolean))
abbrev iX5_takesName : zI := (yX5_takesName, cX5_takesName, 1, (some .boolean))
abbrev iX5_takesNumber : zI := (yX5_takesNumber, cX5_takesNumber, 3, (some .boolean))
abbrev iX6_init : zI := (yX6_init, cX6_init, 1, none)
abbrev iX6_value : zI := (yX6_value, cX6_value, 7, (some .int))
abbrev iX6_named : zI := (yX6_named, cX6_named, 2, (some .int))
abbrev iX6_joined : zI := (yX6_joined, cX6_joined, 3, (some .int))
abbrev iX6_bounded : zI := (yX6_bounded, cX6_bounded, 2, (some .int))
abbrev iX7_init : zI := (yX7_init, cX7_init, 1, none)
abbrev iX7_clear : zI := (yX7_clear, cX7_clear, 2, none)
abbrev iX7_isTold : zI := (yX7_isTold, cX7_isTold, 2, (some .boolean))
abbrev iX7_begin : zI := (yX7_begin, cX7_begin, 2, none)
abbrev iX7_close : zI := (yX7_close, cX7_close, 2, none)
abbrev iX7_put : zI := (yX7_put, cX7_put, 2, (some .boolean))
abbrev iX8_init : zI := (yX8_init, cX8_init, 1, none)
abbrev iX8_copyFrom : zI := (yX8_copyFrom, cX8_copyFrom, 2, none)
abbrev iX8_isMissing : zI := (yX8_isMissing, cX8_isMissing, 2, (some .boolean))
abbrev iX8_turn : zI := (yX8_turn, cX8_turn, 2, none)
abbrev iX9_init : zI := (yX9_init, cX9_init, 2, none)
abbrev iX9_faultKind : zI := (yX9_faultKind, cX9_faultKind, 1, (some .int))
abbrev iX9_faultPlace : zI := (yX9_faultPlace, cX9_faultPlace, 1, (some .int))
abbrev iX9_reads : zI := (yX9_reads, cX9_reads, 6, (some .boolean))
abbrev iX9_takesSize : zI := (yX9_takesSize, cX9_takesSize, 2, (some .boolean))
abbrev iX9_takesStatement : zI := (yX9_takesStatement, cX9_takesStatement, 2, (some .boolean))
abbrev iX9_takesPace : zI := (yX9_takesPace, cX9_takesPace, 1, (some .boolean))
abbrev iX9_takesGale : zI := (yX9_takesGale, cX9_takesGale, 1, (some .boolean))
abbrev iX9_takesWall : zI := (yX9_takesWall, cX9_takesWall, 1, (some .boolean))
abbrev iX9_takesLack : zI := (yX9_takesLack, cX9_takesLack, 2, (some .boolean))
abbrev iX9_takesHas : zI := (yX9_takesHas, cX9_takesHas, 2, (some .boolean))
abbrev iX9_takesFolk : zI := (yX9_takesFolk, cX9_takesFolk, 2, (some .boolean))
abbrev iX9_takesRule : zI := (yX9_takesRule, cX9_takesRule, 3, (some .boolean))
abbrev iX9_takesNewName : zI := (yX9_takesNewName, cX9_takesNewName, 1, (some .boolean))
abbrev iX9_takesCell : zI := (yX9_takesCell, cX9_takesCell, 4, (some .boolean))
abbrev iX10_init : zI := (yX10_init, cX10_init, 3, none)
abbrev iX10_begin : zI := (yX10_begin, cX10_begin, 3, none)
abbrev iX10_takesTest : zI := (yX10_takesTest, cX10_takesTest, 4, (some .boolean))
abbrev iX10_takesBoth : zI := (yX10_takesBoth, cX10_takesBoth, 4, (some .boolean))
abbrev iX10_takesFact : zI := (yX10_takesFact, cX10_takesFact, 2, (some .boolean))
abbrev iX10_takesComparison : zI := (yX10_takesComparison, cX10_takesComparison, 3, (some .boolean))
abbrev iX10_takesSum : zI := (yX10_takesSum, cX10_takesSum, 5, (some .boolean))
abbrev iX10_takesProduct : zI := (yX10_takesProduct, cX10_takesProduct, 5, (some .boolean))
abbrev iX10_isFactorSign : zI := (yX10_isFactorSign, cX10_isFactorSign, 1, (some .boolean))
abbrev iX10_takesPart : zI := (yX10_takesPart, cX10_takesPart, 3, (some .boolean))
abbrev iX10_isValue : zI := (yX10_isValue, cX10_isValue, 2, (some .boolean))
abbrev iX10_takesPair : zI := (yX10_takesPair, cX10_takesPair, 2, (some .boolean))
abbrev iX10_opens : zI := (yX10_opens, cX10_opens, 3, (some .boolean))
abbrev iX11_init : zI := (yX11_init, cX11_init, 1, none)
abbrev iX11_feed : zI := (yX11_feed, cX11_feed, 6, (some .int))
abbrev iX11_end : zI := (yX11_end, cX11_end, 2, (some .boolean))
abbrev iX11_quay : zI := (yX11_quay, cX11_quay, 3, (some .int))
abbrev iX11_fault : zI := (yX11_fault, cX11_fault, 2, (some .int))
abbrev iX11_has : zI := (yX11_has, cX11_has, 2, (some .int))
abbrev iX11_letter : zI := (yX11_letter, cX11_letter, 4, (some .int))
abbrev iX11_cell : zI := (yX11_cell, cX11_cell, 6, (some .int))
abbrev iX11_thing : zI := (yX11_thing, cX11_thing, 3, (some .int))
abbrev iX11_folk : zI := (yX11_folk, cX11_folk, 3, (some .int))
abbrev iX11_later : zI := (yX11_later, cX11_later, 5, (some .int))
abbrev iX11_home : zI := (yX11_home, cX11_home, 2, (some .int))
abbrev iX11_missing : zI := (yX11_missing, cX11_missing, 3, (some .int))
abbrev iX11_losses : zI := (yX11_losses, cX11_losses, 3, (some .int))
abbrev iX11_worst : zI := (yX11_worst, cX11_worst, 3, (some .int))
abbrev iX11_cover : zI := (yX11_cover, cX11_cover, 1, (some .int))
abbrev iX11_send : zI := (yX11_send, cX11_send, 2, (some .int))
abbrev iX11_odds : zI := (yX11_odds, cX11_odds, 2, (some .int))
abbrev iX11_meet : zI := (yX11_meet, cX11_meet, 2, (some .int))
abbrev iX11_hues : zI := (yX11_hues, cX11_hues, 2, (some .int))
abbrev iX11_tells : zI := (yX11_tells, cX11_tells, 3, (some .int))
abbrev iX11_nights : zI := (yX11_nights, cX11_nights, 4, (some .int))
abbrev iX11_chance : zI := (yX11_chance, cX11_chance, 5, (some .int))
abbrev iX11_lose : zI := (yX11_lose, cX11_lose, 2, (some .boolean))
abbrev iX11_find : zI := (yX11_find, cX11_find, 2, (some .boolean))
abbrev iX11_lead : zI := (yX11_lead, cX11_lead, 4, (some .boolean))
abbrev iX11_undo : zI := (yX11_undo, cX11_undo, 1, (some .boolean))
abbrev iX11_seed : zI := (yX11_seed, cX11_seed, 2, (some .boolean))
abbrev iX11_kept : zI := (yX11_kept, cX11_kept, 3, (some .int))
abbrev iX11_image : zI := (yX11_image, cX11_image, 3, (some .int))
abbrev iX11_octet : zI := (yX11_octet, cX11_octet, 2, (some .int))
abbrev iX11_on : zI := (yX11_on, cX11_on, 4, (some .boolean))
abbrev iX11_status : zI := (yX11_status, cX11_status, 2, (some .int))
abbrev iX11_refuse : zI := (yX11_refuse, cX11_refuse, 2, (some .int))
abbrev iX11_refused : zI := (yX11_refused, cX11_refused, 2, (some .boolean))
abbrev iX11_putOnTape : zI := (yX11_putOnTape, cX11_putOnTape, 3, none)
abbrev iX11_takeTape : zI := (yX11_takeTape, cX11_takeTape, 2, (some .int))
abbrev iX11_forgetActs : zI := (yX11_forgetActs, cX11_forgetActs, 1, none)
abbrev iX11_isThing : zI := (yX11_isThing, cX11_isThing, 2, (some .boolean))
abbrev iX11_isFolk : zI := (yX11_isFolk, cX11_isFolk, 2, (some .boolean))
abbrev iX11_comes : zI := (yX11_comes, cX11_comes, 3, (some .boolean))
abbrev iX11_turnByAct : zI := (yX11_turnByAct, cX11_turnByAct, 2, none)
abbrev iX11_passAndKeep : zI := (yX11_passAndKeep, cX11_passAndKeep, 4, (some .int))
abbrev iX11_drawDark : zI := (yX11_drawDark, cX11_drawDark, 2, (some .int))
abbrev iX11_draw : zI := (yX11_draw, cX11_draw, 2, (some .int))
abbrev iX11_nightOnTape : zI := (yX11_nightOnTape, cX11_nightOnTape, 1, (some .int))
abbrev iX11_holdsImage : zI := (yX11_holdsImage, cX11_holdsImage, 5, (some .boolean))
abbrev iX11_checkOf : zI := (yX11_checkOf, cX11_checkOf, 4, (some .int))
abbrev iX11_letterOf : zI := (yX11_letterOf, cX11_letterOf, 2, (some .int))
abbrev iX11_placeOf : zI := (yX11_placeOf, cX11_placeOf, 2, (some .int))
abbrev iX11_columnOf : zI := (yX11_columnOf, cX11_columnOf, 1, (some .int))
abbrev iX11_rowOf : zI := (yX11_rowOf, cX11_rowOf, 1, (some .int))
abbrev iX11_bitOf : zI := (yX11_bitOf, cX11_bitOf, 1, (some .long))
abbrev iX12_init : zI := (yX12_init, cX12_init, 2, none)
abbrev iX12_is : zI := (yX12_is, cX12_is, 3, (some .boolean))
abbrev iX12_put : zI := (yX12_put, cX12_put, 3, none)
abbrev iX12_feed : zI := (yX12_feed, cX12_feed, 6, (some .int))
abbrev iX12_end : zI := (yX12_end, cX12_end, 2, (some .boolean))
abbrev iX12_blame : zI := (yX12_blame, cX12_blame, 3, none)
abbrev iX12_isLetter : zI := (yX12_isLetter, cX12_isLetter, 1, (some .boolean))
abbrev iX12_isDigit : zI := (yX12_isDigit, cX12_isDigit, 1, (some .boolean))
abbrev iX12_lex : zI := (yX12_lex, cX12_lex, 1, none)
abbrev iX12_ahead : zI := (yX12_ahead, cX12_ahead, 6, none)
abbrev iX12_isSign : zI := (yX12_isSign, cX12_isSign, 2, (some .boolean))
abbrev iX12_isWord : zI := (yX12_isWord, cX12_isWord, 3, (some .boolean))
abbrev iX12_must : zI := (yX12_must, cX12_must, 2, none)
abbrev iX12_isOwn : zI := (yX12_isOwn, cX12_isOwn, 3, (some .boolean))
abbrev iX12_thingNamed : zI := (yX12_thingNamed, cX12_thingNamed, 4, (some .int))
abbrev iX12_isNamed : zI := (yX12_isNamed, cX12_isNamed, 4, (some .boolean))
abbrev iX12_number : zI := (yX12_number, cX12_number, 4, (some .int))
abbrev iX12_add : zI := (yX12_add, cX12_add, 3, none)
abbrev iX12_rank : zI := (yX12_rank, cX12_rank, 1, (some .int))
abbrev iX12_joins : zI := (yX12_joins, cX12_joins, 2, none)
abbrev iX12_holdsBack : zI := (yX12_holdsBack, cX12_holdsBack, 2, none)
abbrev iX12_pushes : zI := (yX12_pushes, cX12_pushes, 2, none)
abbrev iX12_opens : zI := (yX12_opens, cX12_opens, 2, none)
abbrev iX12_isTest : zI := (yX12_isTest, cX12_isTest, 1, (some .boolean))
abbrev iX12_operand : zI := (yX12_operand, cX12_operand, 4, (some .boolean))
abbrev iX12_goesOn : zI := (yX12_goesOn, cX12_goesOn, 5, (some .boolean))
abbrev iX12_reads : zI := (yX12_reads, cX12_reads, 3, none)
abbrev iX12_isCounted : zI := (yX12_isCounted, cX12_isCounted, 2, (some .boolean))
abbrev iX12_must_ : zI := (yX12_must_, cX12_must_, 3, none)
abbrev iX12_has2 : zI := (yX12_has2, cX12_has2, 2, (some .boolean))
abbrev iX12_fresh : zI := (yX12_fresh, cX12_fresh, 3, (some .long))
abbrev iX12_isInTheWay : zI := (yX12_isInTheWay, cX12_isInTheWay, 3, (some .boolean))
abbrev iX12_cellTold : zI := (yX12_cellTold, cX12_cellTold, 6, (some .int))
abbrev iX12_quaying : zI := (yX12_quaying, cX12_quaying, 1, none)
abbrev iX12_telling : zI := (yX12_telling, cX12_telling, 3, (some .int))
abbrev iX12_walling : zI := (yX12_walling, cX12_walling, 2, none)
abbrev iX12_lacking : zI := (yX12_lacking, cX12_lacking, 2, none)
abbrev iX12_having : zI := (yX12_having, cX12_having, 2, none)
abbrev iX12_folking : zI := (yX12_folking, cX12_folking, 2, none)
abbrev iX12_reading : zI := (yX12_reading, cX12_reading, 3, none)
abbrev iX12_statement : zI := (yX12_statement, cX12_statement, 1, none)
abbrev iX12_finishes : zI := (yX12_finishes, cX12_finishes, 3, none)
abbrev iX12_quay : zI := (yX12_quay, cX12_quay, 2, (some .int))
abbrev iX12_fault : zI := (yX12_fault, cX12_fault, 2, (some .int))
abbrev iX12_refuses : zI := (yX12_refuses, cX12_refuses, 2, (some .int))
abbrev iX12_status : zI := (yX12_status, cX12_status, 2, (some .int))
abbrev iX12_copies : zI := (yX12_copies, cX12_copies, 4, none)
abbrev iX12_begin : zI := (yX12_begin, cX12_begin, 2, none)
abbrev iX12_slot : zI := (yX12_slot, cX12_slot, 2, (some .int))
abbrev iX12_keeps : zI := (yX12_keeps, cX12_keeps, 1, none)
abbrev iX12_undo : zI := (yX12_undo, cX12_undo, 1, (some .boolean))
abbrev iX12_within : zI := (yX12_within, cX12_within, 2, (some .long))
abbrev iX12_floor : zI := (yX12_floor, cX12_floor, 6, (some .long))
abbrev iX12_two : zI := (yX12_two, cX12_two, 5, (some .long))
abbrev iX12_reckons : zI := (yX12_reckons, cX12_reckons, 5, (some .long))
abbrev iX12_isTold : zI := (yX12_isTold, cX12_isTold, 2, (some .boolean))
abbrev iX12_bits : zI := (yX12_bits, cX12_bits, 3, (some .int))
abbrev iX12_isCell : zI := (yX12_isCell, cX12_isCell, 3, (some .boolean))
abbrev iX12_isCellOf : zI := (yX12_isCellOf, cX12_isCellOf, 2, (some .boolean))
abbrev iX12_isWall : zI := (yX12_isWall, cX12_isWall, 2, (some .boolean))
abbrev iX12_besideOf : zI := (yX12_besideOf, cX12_besideOf, 5, (some .int))
abbrev iX12_lays : zI := (yX12_lays, cX12_lays, 3, none)
abbrev iX12_glowOf : zI := (yX12_glowOf, cX12_glowOf, 5, (some .int))
abbrev iX12_gap : zI := (yX12_gap, cX12_gap, 2, (some .int))
abbrev iX12_lights : zI := (yX12_lights, cX12_lights, 7, none)
abbrev iX12_leads : zI := (yX12_leads, cX12_leads, 8, none)
abbrev iX12_walks : zI := (yX12_walks, cX12_walks, 8, none)
abbrev iX12_isHome : zI := (yX12_isHome, cX12_isHome, 3, (some .boolean))
abbrev iX12_writesDown : zI := (yX12_writesDown, cX12_writesDown, 5, none)
abbrev iX12_turnsOver : zI := (yX12_turnsOver, cX12_turnsOver, 3, none)
abbrev iX12_isTurned : zI := (yX12_isTurned, cX12_isTurned, 6, (some .boolean))
abbrev iX12_ticks : zI := (yX12_ticks, cX12_ticks, 6, (some .int))
abbrev iX12_isThing : zI := (yX12_isThing, cX12_isThing, 2, (some .boolean))
abbrev iX12_isFolk : zI := (yX12_isFolk, cX12_isFolk, 2, (some .boolean))
abbrev iX12_homes : zI := (yX12_homes, cX12_homes, 4, (some .int))
abbrev iX12_has : zI := (yX12_has, cX12_has, 4, (some .int))
abbrev iX12_letter : zI := (yX12_letter, cX12_letter, 10, (some .int))
abbrev iX12_cell : zI := (yX12_cell, cX12_cell, 5, (some .int))
abbrev iX12_partOf : zI := (yX12_partOf, cX12_partOf, 2, (some .int))
abbrev iX12_thing : zI := (yX12_thing, cX12_thing, 3, (some .int))
abbrev iX12_folk : zI := (yX12_folk, cX12_folk, 3, (some .int))
abbrev iX12_isAhead : zI := (yX12_isAhead, cX12_isAhead, 4, (some .boolean))
abbrev iX12_runsOn : zI := (yX12_runsOn, cX12_runsOn, 3, none)
abbrev iX12_later : zI := (yX12_later, cX12_later, 4, (some .int))
abbrev iX12_home : zI := (yX12_home, cX12_home, 3, (some .int))
abbrev iX12_missing : zI := (yX12_missing, cX12_missing, 3, (some .int))
abbrev iX12_turnsAll : zI := (yX12_turnsAll, cX12_turnsAll, 3, none)
abbrev iX12_losses : zI := (yX12_losses, cX12_losses, 5, (some .int))
abbrev iX12_worst : zI := (yX12_worst, cX12_worst, 6, (some .int))
abbrev iX12_cover : zI := (yX12_cover, cX12_cover, 5, (some .int))
abbrev iX12_from : zI := (yX12_from, cX12_from, 2, (some .int))
abbrev iX12_costOf : zI := (yX12_costOf, cX12_costOf, 4, (some .int))
abbrev iX12_sends : zI := (yX12_sends, cX12_sends, 6, none)
abbrev iX12_send : zI := (yX12_send, cX12_send, 9, (some .int))
abbrev iX12_odds : zI := (yX12_odds, cX12_odds, 5, (some .int))
abbrev iX12_meet : zI := (yX12_meet, cX12_meet, 4, (some .int))
abbrev iX12_hueBits : zI := (yX12_hueBits, cX12_hueBits, 7, (some .int))
abbrev iX12_hues : zI := (yX12_hues, cX12_hues, 2, (some .int))
abbrev iX12_mostBy : zI := (yX12_mostBy, cX12_mostBy, 8, (some .int))
abbrev iX12_tells : zI := (yX12_tells, cX12_tells, 9, (some .int))
abbrev iX12_nights : zI := (yX12_nights, cX12_nights, 4, (some .int))
abbrev iX12_draw : zI := (yX12_draw, cX12_draw, 2, (some .int))
abbrev iX12_chance : zI := (yX12_chance, cX12_chance, 5, (some .int))
abbrev iX12_turnsNow : zI := (yX12_turnsNow, cX12_turnsNow, 3, (some .boolean))
abbrev iX12_lose : zI := (yX12_lose, cX12_lose, 2, (some .boolean))
abbrev iX12_find : zI := (yX12_find, cX12_find, 2, (some .boolean))
abbrev iX12_lead : zI := (yX12_lead, cX12_lead, 5, (some .boolean))
abbrev iX12_seed : zI := (yX12_seed, cX12_seed, 2, (some .boolean))
abbrev iX12_kept : zI := (yX12_kept, cX12_kept, 3, (some .int))
abbrev iX12_writes : zI := (yX12_writes, cX12_writes, 2, none)
abbrev iX12_image : zI := (yX12_image, cX12_image, 3, (some .int))
abbrev iX12_octet : zI := (yX12_octet, cX12_octet, 2, (some .int))
abbrev iX12_folkOn : zI := (yX12_folkOn, cX12_folkOn, 4, (some .boolean))
abbrev iX12_comesOn : zI := (yX12_comesOn, cX12_comesOn, 6, (some .boolean))
abbrev iX12_on : zI := (yX12_on, cX12_on, 2, (some .boolean))
abbrev iJ6_bitCount_0f7a4 : zI := (yJ6_bitCount_0f7a4, cJ6_bitCount_0f7a4, 1, (some .int))
abbrev iJ13_bitCount_95d88 : zI := (yJ13_bitCount_95d88, cJ13_bitCount_95d88, 2, (some .int))
abbrev iJ9_floorDiv_7cf53 : zI := (yJ9_floorDiv_7cf53, cJ9_floorDiv_7cf53, 3, (some .int))
abbrev iJ9_floorMod_7cf53 : zI := (yJ9_floorMod_7cf53, cJ9_floorMod_7cf53, 3, (some .int))
abbrev iJ9_max_7cf53 : zI := (yJ9_max_7cf53, cJ9_max_7cf53, 2, (some .int))
abbrev iJ9_min_7cf53 : zI := (yJ9_min_7cf53, cJ9_min_7cf53, 2, (some .int))
abbrev iJ0_length_8abf5 : zI := (yJ0_length_8abf5, cJ0_length_8abf5, 1, (some .int))
abbrev iJ0_charAt_5068e : zI := (yJ0_charAt_5068e, cJ0_charAt_5068e, 2, (some .char))
abbrev iJ0_coder_7d493 : zI := (yJ0_coder_7d493, cJ0_coder_7d493, 1, (some .byte))
abbrev iJ0_isLatin1_aae02 : zI := (yJ0_isLatin1_aae02, cJ0_isLatin1_aae02, 1, (some .boolean))
abbrev iJ0_checkIndex_df160 : zI := (yJ0_checkIndex_df160, cJ0_checkIndex_df160, 2, none)
abbrev iJ1_charAt_3b067 : zI := (yJ1_charAt_3b067, cJ1_charAt_3b067, 2, (some .char))
abbrev iJ3_checkIndex_8e157 : zI := (yJ3_checkIndex_8e157, cJ3_checkIndex_8e157, 3, (some .int))
def zml : List zI := [iX0_init, iX0_moveTo, iX0_pass, iX0_lit, iX0_glow, iX0_light, iX0_nextTo, iX0_countLanterns, iX0_road, iX0_walked, iX0_stepped, iX0_settle, iX0_isFound, iX0_isLost, iX0_setOut, iX0_hueOf, iX0_near, iX0_isAtHome, iX0_countAtHome, iX1_init, iX1_add, iX1_copyFrom, iX2_init, iX2_push, iX2_pop, iX3_init, iX3_behind, iX3_nightsTillHome, iX3_leastLosses, iX3_turnAll, iX3_worstFound, iX3_leastCover, iX3_lightOf, iX3_arrange, iX3_measure, iX3_weigh, iX3_worthWith, iX3_firstBest, iX3_rowsToHome, iX3_forgetMet, iX3_takesMet, iX3_huesLeft, iX3_lastMetNight, iX3_fitsMet, iX3_findTelling, iX3_supposeAll, iX3_mostAlike, iX4_init, iX4_clear, iX4_setFirst, iX4_hasCell, iX4_hasFreeCell, iX4_setSize, iX4_taken, iX4_thingNamed, iX4_isNamed, iX5_init, iX5_begin, iX5_advance, iX5_readWord, iX5_readNumber, iX5_isOwn, iX5_isSign, iX5_faults, iX5_takesOwn, iX5_takesSign, iX5_takesName, iX5_takesNumber, iX6_init, iX6_value, iX6_named, iX6_joined, iX6_bounded, iX7_init, iX7_clear, iX7_isTold, iX7_begin, iX7_close, iX7_put, iX8_init, iX8_copyFrom, iX8_isMissing, iX8_turn, iX9_init, iX9_faultKind, iX9_faultPlace, iX9_reads, iX9_takesSize, iX9_takesStatement, iX9_takesPace, iX9_takesGale, iX9_takesWall, iX9_takesLack, iX9_takesHas, iX9_takesFolk, iX9_takesRule, iX9_takesNewName, iX9_takesCell, iX10_init, iX10_begin, iX10_takesTest, iX10_takesBoth, iX10_takesFact, iX10_takesComparison, iX10_takesSum, iX10_takesProduct, iX10_isFactorSign, iX10_takesPart, iX10_isValue, iX10_takesPair, iX10_opens, iX11_init, iX11_feed, iX11_end, iX11_quay, iX11_fault, iX11_has, iX11_letter, iX11_cell, iX11_thing, iX11_folk, iX11_later, iX11_home, iX11_missing, iX11_losses, iX11_worst, iX11_cover, iX11_send, iX11_odds, iX11_meet, iX11_hues, iX11_tells, iX11_nights, iX11_chance, iX11_lose, iX11_find, iX11_lead, iX11_undo, iX11_seed, iX11_kept, iX11_image, iX11_octet, iX11_on, iX11_status, iX11_refuse, iX11_refused, iX11_putOnTape, iX11_takeTape, iX11_forgetActs, iX11_isThing, iX11_isFolk, iX11_comes, iX11_turnByAct, iX11_passAndKeep, iX11_drawDark, iX11_draw, iX11_nightOnTape, iX11_holdsImage, iX11_checkOf, iX11_letterOf, iX11_placeOf, iX11_columnOf, iX11_rowOf, iX11_bitOf, iX12_init, iX12_is, iX12_put, iX12_feed, iX12_end, iX12_blame, iX12_isLetter, iX12_isDigit, iX12_lex, iX12_ahead, iX12_isSign, iX12_isWord, iX12_must, iX12_isOwn, iX12_thingNamed, iX12_isNamed, iX12_number, iX12_add, iX12_rank, iX12_joins, iX12_holdsBack, iX12_pushes, iX12_opens, iX12_isTest, iX12_operand, iX12_goesOn, iX12_reads, iX12_isCounted, iX12_must_, iX12_has2, iX12_fresh, iX12_isInTheWay, iX12_cellTold, iX12_quaying, iX12_telling, iX12_walling, iX12_lacking, iX12_having, iX12_folking, iX12_reading, iX12_statement, iX12_finishes, iX12_quay, iX12_fault, iX12_refuses, iX12_status, iX12_copies, iX12_begin, iX12_slot, iX12_keeps, iX12_undo, iX12_within, iX12_floor, iX12_two, iX12_reckons, iX12_isTold, iX12_bits, iX12_isCell, iX12_isCellOf, iX12_isWall, iX12_besideOf, iX12_lays, iX12_glowOf, iX12_gap, iX12_lights, iX12_leads, iX12_walks, iX12_isHome, iX12_writesDown, iX12_turnsOver, iX12_isTurned, iX12_ticks, iX12_isThing, iX12_isFolk, iX12_homes, iX12_has, iX12_letter, iX12_cell, iX12_partOf, iX12_thing, iX12_folk, iX12_isAhead, iX12_runsOn, iX12_later, iX12_home, iX12_missing, iX12_turnsAll, iX12_losses, iX12_worst, iX12_cover, iX12_from, iX12_costOf, iX12_sends, iX12_send, iX12_odds, iX12_meet, iX12_hueBits, iX12_hues, iX12_mostBy, iX12_tells, iX12_nights, iX12_draw, iX12_chance, iX12_turnsNow, iX12_lose, iX12_find, iX12_lead, iX12_seed, iX12_kept, iX12_writes, iX12_image, iX12_octet, iX12_folkOn, iX12_comesOn, iX12_on, iJ6_bitCount_0f7a4, iJ13_bitCount_95d88, iJ9_floorDiv_7cf53, iJ9_floorMod_7cf53, iJ9_max_7cf53, iJ9_min_7cf53, iJ0_length_8abf5, iJ0_charAt_5068e, iJ0_coder_7d493, iJ0_isLatin1_aae02, iJ0_checkIndex_df160, iJ1_charAt_3b067, iJ3_checkIndex_8e157]
def ztl : List FieldType := [.int, .long, .boolean, .object "MissingLamps$State", .object "MissingLamps$KeptRows"]
def znest : List Cond := [Cond.methodLinkNest "MissingLamps" (19 : Nat) ({ cls := "MissingLamps$Quay", name := "<init>", desc := "()V" } : MethodName) "MissingLamps", Cond.methodLinkNest "MissingLamps" (38 : Nat) ({ cls := "MissingLamps$State", name := "<init>", desc := "()V" } : MethodName) "MissingLamps", Cond.methodLinkNest "MissingLamps" (45 : Nat) ({ cls := "MissingLamps$KeptRows", name := "<init>", desc := "()V" } : MethodName) "MissingLamps", Cond.methodLinkNest "MissingLamps$Harbour" (11 : Nat) ({ cls := "MissingLamps$Reckoner", name := "<init>", desc := "()V" } : MethodName) "MissingLamps", Cond.methodLinkNest "MissingLamps$Harbour" (100 : Nat) ({ cls := "MissingLamps", name := "bitOf", desc := "(I)J" } : MethodName) "MissingLamps", Cond.methodLinkNest "MissingLamps$Past" (23 : Nat) ({ cls := "MissingLamps$State", name := "<init>", desc := "()V" } : MethodName) "MissingLamps", Cond.methodLinkNest "MissingLamps$Past" (24 : Nat) ({ cls := "MissingLamps$KeptRows", name := "<init>", desc := "()V" } : MethodName) "MissingLamps", Cond.methodLinkNest "MissingLamps$Planner" (38 : Nat) ({ cls := "MissingLamps$State", name := "<init>", desc := "()V" } : MethodName) "MissingLamps", Cond.methodLinkNest "MissingLamps$Planner" (192 : Nat) ({ cls := "MissingLamps", name := "placeOf", desc := "(II)I" } : MethodName) "MissingLamps", Cond.methodLinkNest "MissingLamps$Quay" (35 : Nat) ({ cls := "MissingLamps$Rules", name := "<init>", desc := "()V" } : MethodName) "MissingLamps", Cond.methodLinkNest "MissingLamps$Quay" (99 : Nat) ({ cls := "MissingLamps", name := "placeOf", desc := "(II)I" } : MethodName) "MissingLamps", Cond.methodLinkNest "MissingLamps$Quay" (103 : Nat) ({ cls := "MissingLamps", name := "bitOf", desc := "(I)J" } : MethodName) "MissingLamps", Cond.methodLinkNest "MissingLamps$StatementReader" (138 : Nat) ({ cls := "MissingLamps", name := "bitOf", desc := "(I)J" } : MethodName) "MissingLamps", Cond.methodLinkNest "MissingLamps$StatementReader" (197 : Nat) ({ cls := "MissingLamps$SumReader", name := "takesSum", desc := "(I)Z" } : MethodName) "MissingLamps", Cond.methodLinkNest "MissingLamps$StatementReader" (200 : Nat) ({ cls := "MissingLamps$SumReader", name := "takesTest", desc := "(I)Z" } : MethodName) "MissingLamps", Cond.methodLinkNest "MissingLamps$StatementReader" (215 : Nat) ({ cls := "MissingLamps", name := "placeOf", desc := "(II)I" } : MethodName) "MissingLamps"]
def zxN : Nat := 118
def zxL : Int32 := 118
def zxl : List Int32 := [113, 117, 97, 121, 32, 98, 121, 32, 112, 97, 99, 101, 32, 103, 97, 108, 101, 32, 119, 97, 108, 108, 32, 108, 97, 99, 107, 32, 97, 116, 32, 104, 117, 101, 32, 104, 105, 103, 104, 32, 104, 97, 115, 32, 102, 111, 108, 107, 32, 104, 111, 109, 101, 32, 103, 108, 111, 119, 115, 32, 102, 105, 110, 100, 115, 32, 108, 111, 115, 101, 115, 32, 110, 105, 103, 104, 116, 32, 97, 103, 101, 32, 108, 111, 115, 116, 32, 110, 101, 97, 114, 32, 105, 102, 32, 111, 114, 32, 97, 110, 100, 32, 110, 111, 116, 32, 97, 108, 108, 32, 109, 105, 110, 32, 109, 97, 120, 32]
def zxb (j : Nat) : Int32 := zxl.getD j 0
/-- what is known of the start beside the words: nest mates, arrays of references, the text and its bytes, two statics -/
def zEE (X : zX) (U : State) : Prop := (∀ w ∈ znest, va_Nw w U) ∧ va_AO "MissingLamps$State" U ∧ va_AO "MissingLamps$KeptRows" U ∧ va_Z "java/lang/String" "COMPACT_STRINGS" "Z" (.int 1) (fun q => zH X ≤ q) U U.heap ∧ va_Z "jdk/internal/util/Preconditions" "SIOOBE_FORMATTER" "Ljava/util/function/BiFunction;" (va_rf (zx X 2)) (fun q => zH X ≤ q) U U.heap ∧
  ∃ a b : Nat, zx X 0 = some a ∧ zx X 1 = some b ∧ vk_R "MissingLamps$Reader" 18 "quay by pace gale wall lack at hue high has folk home glows finds loses night age lost near if or and not all min max " a U ∧ va_O "java/lang/String" a (fun q => zH X ≤ q) U U.heap ∧ va_OF "java/lang/String" "coder" "B" (.int 0) a (fun q => zH X ≤ q) U U.heap ∧ va_OF "java/lang/String" "value" "[B" (.ref b) a (fun q => zH X ≤ q) U U.heap ∧ va_T .byte b zxN (fun j => .int (zxb j)) (fun q => zH X ≤ q) U U.heap
def zg : zG := (vwCl, ztb, ztl, zEE, fun j => zml[j]?)
theorem zx_text : ∀ X U, zEx zg X U → ∃ a, zx X 0 = some a ∧ vk_R "MissingLamps$Reader" 18 "quay by pace gale wall lack at hue high has folk home glows finds loses night age lost near if or and not all min max " a U := fun X U h => by obtain ⟨-, -, -, -, -, a, b, h1, -, h2, -⟩ := h; exact ⟨a, h1, h2⟩
theorem zx_obj : ∀ X U, zEx zg X U → ∃ a, zx X 0 = some a ∧ va_O RJ0 a (fun q => zH X ≤ q) U U.heap := fun X U h => by obtain ⟨-, -, -, -, -, a, b, h1, -, -, h2, -⟩ := h; exact ⟨a, h1, h2⟩
theorem zx_coder : ∀ X U, zEx zg X U → ∃ a, zx X 0 = some a ∧ va_OF "java/lang/String" "coder" "B" (zU X (.int 0)) a (fun q => zH X ≤ q) U U.heap := fun X U h => by obtain ⟨-, -, -, -, -, a, b, h1, -, -, -, h2, -⟩ := h; exact ⟨a, h1, h2⟩
theorem zx_value : ∀ X U, zEx zg X U → ∃ a, zx X 0 = some a ∧ va_OF "java/lang/String" "value" "[B" (zU X (.retAddr 1)) a (fun q => zH X ≤ q) U U.heap := fun X U h => by obtain ⟨-, -, -, -, -, a, b, h1, h2, -, -, -, h3, -⟩ := h; exact ⟨a, h1, by rw [zU_x h2]; exact h3⟩
theorem zx_bytes : ∀ X U, zEx zg X U → ∃ a, zx X 1 = some a ∧ va_T .byte a zxN (fun j => .int (zxb j)) (fun q => zH X ≤ q) U U.heap := fun X U h => by obtain ⟨-, -, -, -, -, a, b, -, h1, -, -, -, -, h2⟩ := h; exact ⟨b, h1, h2⟩
theorem zx_compact : ∀ X U, zEx zg X U → va_Z "java/lang/String" "COMPACT_STRINGS" "Z" (zU X (.int 1)) (fun q => zH X ≤ q) U U.heap := fun _ _ h => h.2.2.2.1
theorem zx_form : ∀ X U, zEx zg X U → va_Z "jdk/internal/util/Preconditions" "SIOOBE_FORMATTER" "Ljava/util/function/BiFunction;" (zU X (.retAddr 2)) (fun q => zH X ≤ q) U U.heap := fun _ _ h => h.2.2.2.2.1
theorem zx_ao3 : ∀ X U, zEx zg X U → va_AO "MissingLamps$State" U := fun _ _ h => h.2.1
theorem zx_ao4 : ∀ X U, zEx zg X U → va_AO "MissingLamps$KeptRows" U := fun _ _ h => h.2.2.1
theorem zx_nest_0 : ∀ X U, zEx zg X U → va_Nw (Cond.methodLinkNest "MissingLamps" 19 ⟨"MissingLamps$Quay", "<init>", "()V"⟩ "MissingLamps") U := fun _ _ h => h.1 _ (List.mem_of_getElem? (i := 0) rfl)
theorem zx_nest_1 : ∀ X U, zEx zg X U → va_Nw (Cond.methodLinkNest "MissingLamps" 38 ⟨"MissingLamps$State", "<init>", "()V"⟩ "MissingLamps") U := fun _ _ h => h.1 _ (List.mem_of_getElem? (i := 1) rfl)
theorem zx_nest_2 : ∀ X U, zEx zg X U → va_Nw (Cond.methodLinkNest "MissingLamps" 45 ⟨"MissingLamps$KeptRows", "<init>", "()V"⟩ "MissingLamps") U := fun _ _ h => h.1 _ (List.mem_of_getElem? (i := 2) rfl)
theorem zx_nest_3 : ∀ X U, zEx zg X U → va_Nw (Cond.methodLinkNest "MissingLamps$Harbour" 11 ⟨"MissingLamps$Reckoner", "<init>", "()V"⟩ "MissingLamps") U := fun _ _ h => h.1 _ (List.mem_of_getElem? (i := 3) rfl)
theorem zx_nest_4 : ∀ X U, zEx zg X U → va_Nw (Cond.methodLinkNest "MissingLamps$Harbour" 100 ⟨"MissingLamps", "bitOf", "(I)J"⟩ "MissingLamps") U := fun _ _ h => h.1 _ (List.mem_of_getElem? (i := 4) rfl)
theorem zx_nest_5 : ∀ X U, zEx zg X U → va_Nw (Cond.methodLinkNest "MissingLamps$Past" 23 ⟨"MissingLamps$State", "<init>", "()V"⟩ "MissingLamps") U := fun _ _ h => h.1 _ (List.mem_of_getElem? (i := 5) rfl)
theorem zx_nest_6 : ∀ X U, zEx zg X U → va_Nw (Cond.methodLinkNest "MissingLamps$Past" 24 ⟨"MissingLamps$KeptRows", "<init>", "()V"⟩ "MissingLamps") U := fun _ _ h => h.1 _ (List.mem_of_getElem? (i := 6) rfl)
theorem zx_nest_7 : ∀ X U, zEx zg X U → va_Nw (Cond.methodLinkNest "MissingLamps$Planner" 38 ⟨"MissingLamps$State", "<init>", "()V"⟩ "MissingLamps") U := fun _ _ h => h.1 _ (List.mem_of_getElem? (i := 7) rfl)
theorem zx_nest_8 : ∀ X U, zEx zg X U → va_Nw (Cond.methodLinkNest "MissingLamps$Planner" 192 ⟨"MissingLamps", "placeOf", "(II)I"⟩ "MissingLamps") U := fun _ _ h => h.1 _ (List.mem_of_getElem? (i := 8) rfl)
theorem zx_nest_9 : ∀ X U, zEx zg X U → va_Nw (Cond.methodLinkNest "MissingLamps$Quay" 35 ⟨"MissingLamps$Rules", "<init>", "()V"⟩ "MissingLamps") U := fun _ _ h => h.1 _ (List.mem_of_getElem? (i := 9) rfl)
theorem zx_nest_10 : ∀ X U, zEx zg X U → va_Nw (Cond.methodLinkNest "MissingLamps$Quay" 99 ⟨"MissingLamps", "placeOf", "(II)I"⟩ "MissingLamps") U := fun _ _ h => h.1 _ (List.mem_of_getElem? (i := 10) rfl)
theorem zx_nest_11 : ∀ X U, zEx zg X U → va_Nw (Cond.methodLinkNest "MissingLamps$Quay" 103 ⟨"MissingLamps", "bitOf", "(I)J"⟩ "MissingLamps") U := fun _ _ h => h.1 _ (List.mem_of_getElem? (i := 11) rfl)
theorem zx_nest_12 : ∀ X U, zEx zg X U → va_Nw (Cond.methodLinkNest "MissingLamps$StatementReader" 138 ⟨"MissingLamps", "bitOf", "(I)J"⟩ "MissingLamps") U := fun _ _ h => h.1 _ (List.mem_of_getElem? (i := 12) rfl)
theorem zx_nest_13 : ∀ X U, zEx zg X U → va_Nw (Cond.methodLinkNest "MissingLamps$StatementReader" 197 ⟨"MissingLamps$SumReader", "takesSum", "(I)Z"⟩ "MissingLamps") U := fun _ _ h => h.1 _ (List.mem_of_getElem? (i := 13) rfl)
theorem zx_nest_14 : ∀ X U, zEx zg X U → va_Nw (Cond.methodLinkNest "MissingLamps$StatementReader" 200 ⟨"MissingLamps$SumReader", "takesTest", "(I)Z"⟩ "MissingLamps") U := fun _ _ h => h.1 _ (List.mem_of_getElem? (i := 14) rfl)
theorem zx_nest_15 : ∀ X U, zEx zg X U → va_Nw (Cond.methodLinkNest "MissingLamps$StatementReader" 215 ⟨"MissingLamps", "placeOf", "(II)I"⟩ "MissingLamps") U := fun _ _ h => h.1 _ (List.mem_of_getElem? (i := 15) rfl)
theorem z_nl {P : Cond → Prop} : ∀ w ∈ ([] : List Cond), P w := fun _ h => absurd h List.not_mem_nil
theorem z_cl {P : Cond → Prop} {a : Cond} {l : List Cond} (h : P a) (k : ∀ w ∈ l, P w) : ∀ w ∈ a :: l, P w := List.forall_mem_cons.mpr ⟨h, k⟩
theorem zinX0 : ∀ w ∈ u_ws RX0 TX0 5, w ∈ zTb zg := by
  have h : ∀ w ∈ [u_lay RX0 TX0 0, u_lay RX0 TX0 1, u_lay RX0 TX0 2, u_lay RX0 TX0 3, u_lay RX0 TX0 4], w ∈ ztb := (z_cl zw_1051 (z_cl zw_1052 (z_cl zw_1053 (z_cl zw_1054 (z_cl zw_1055 z_nl)))))
  exact h
def zdfX0 : List Value := [.null, .null, .null, .int 0, .int 0]
theorem zdfX0_ok : zdfX0 = (List.range 5).map (fun k => defaultValue (tyX0 k)) := by decide +kernel
theorem zinX1 : ∀ w ∈ u_ws RX1 TX1 4, w ∈ zTb zg := by
  have h : ∀ w ∈ [u_lay RX1 TX1 0, u_lay RX1 TX1 1, u_lay RX1 TX1 2, u_lay RX1 TX1 3], w ∈ ztb := (z_cl zw_1056 (z_cl zw_1057 (z_cl zw_1058 (z_cl zw_1059 z_nl))))
  exact h
def zdfX1 : List Value := [.null, .null, .null, .int 0]
theorem zdfX1_ok : zdfX1 = (List.range 4).map (fun k => defaultValue (tyX1 k)) := by decide +kernel
theorem zinX2 : ∀ w ∈ u_ws RX2 TX2 4, w ∈ zTb zg := by
  have h : ∀ w ∈ [u_lay RX2 TX2 0, u_lay RX2 TX2 1, u_lay RX2 TX2 2, u_lay RX2 TX2 3], w ∈ ztb := (z_cl zw_1060 (z_cl zw_1061 (z_cl zw_1062 (z_cl zw_1063 z_nl))))
  exact h
def zdfX2 : List Value := [.null, .null, .int 0, .int 0]
theorem zdfX2_ok : zdfX2 = (List.range 4).map (fun k => defaultValue (tyX2 k)) := by decide +kernel
theorem zinX3 : ∀ w ∈ u_ws RX3 TX3 13, w ∈ zTb zg := by
  have h : ∀ w ∈ [u_lay RX3 TX3 0, u_lay RX3 TX3 1, u_lay RX3 TX3 2, u_lay RX3 TX3 3, u_lay RX3 TX3 4, u_lay RX3 TX3 5, u_lay RX3 TX3 6, u_lay RX3 TX3 7, u_lay RX3 TX3 8, u_lay RX3 TX3 9, u_lay RX3 TX3 10, u_lay RX3 TX3 11, u_lay RX3 TX3 12], w ∈ ztb := (z_cl zw_1064 (z_cl zw_1065 (z_cl zw_1066 (z_cl zw_1067 (z_cl zw_1068 (z_cl zw_1069 (z_cl zw_1070 (z_cl zw_1071 (z_cl zw_1072 (z_cl zw_1073 (z_cl zw_1074 (z_cl zw_1075 (z_cl zw_1076 z_nl)))))))))))))
  exact h
def zdfX3 : List Value := [.null, .null, .null, .null, .null, .null, .int 0, .int 0, .null, .int 0, .int 0, .int 0, .int 0]
theorem zdfX3_ok : zdfX3 = (List.range 13).map (fun k => defaultValue (tyX3 k)) := by decide +kernel
theorem zinX4 : ∀ w ∈ u_ws RX4 TX4 18, w ∈ zTb zg := by
  have h : ∀ w ∈ [u_lay RX4 TX4 0, u_lay RX4 TX4 1, u_lay RX4 TX4 2, u_lay RX4 TX4 3, u_lay RX4 TX4 4, u_lay RX4 TX4 5, u_lay RX4 TX4 6, u_lay RX4 TX4 7, u_lay RX4 TX4 8, u_lay RX4 TX4 9, u_lay RX4 TX4 10, u_lay RX4 TX4 11, u_lay RX4 TX4 12, u_lay RX4 TX4 13, u_lay RX4 TX4 14, u_lay RX4 TX4 15, u_lay RX4 TX4 16, u_lay RX4 TX4 17], w ∈ ztb := (z_cl zw_1077 (z_cl zw_1078 (z_cl zw_1079 (z_cl zw_1080 (z_cl zw_1081 (z_cl zw_1082 (z_cl zw_1083 (z_cl zw_1084 (z_cl zw_1085 (z_cl zw_1086 (z_cl zw_1087 (z_cl zw_1088 (z_cl zw_1089 (z_cl zw_1090 (z_cl zw_1091 (z_cl zw_1092 (z_cl zw_1093 (z_cl zw_1094 z_nl))))))))))))))))))
  exact h
def zdfX4 : List Value := [.int 0, .int 0, .int 0, .int 0, .int 0, .long 0, .long 0, .int 0, .null, .null, .null, .null, .int 0, .int 0, .null, .null, .null, .null]
theorem zdfX4_ok : zdfX4 = (List.range 18).map (fun k => defaultValue (tyX4 k)) := by decide +kernel
theorem zinX5 : ∀ w ∈ u_ws RX5 TX5 12, w ∈ zTb zg := by
  have h : ∀ w ∈ [u_lay RX5 TX5 0, u_lay RX5 TX5 1, u_lay RX5 TX5 2, u_lay RX5 TX5 3, u_lay RX5 TX5 4, u_lay RX5 TX5 5, u_lay RX5 TX5 6, u_lay RX5 TX5 7, u_lay RX5 TX5 8, u_lay RX5 TX5 9, u_lay RX5 TX5 10, u_lay RX5 TX5 11], w ∈ ztb := (z_cl zw_1095 (z_cl zw_1096 (z_cl zw_1097 (z_cl zw_1098 (z_cl zw_1099 (z_cl zw_1100 (z_cl zw_1101 (z_cl zw_1102 (z_cl zw_1103 (z_cl zw_1104 (z_cl zw_1105 (z_cl zw_1106 z_nl))))))))))))
  exact h
def zdfX5 : List Value := [.null, .null, .int 0, .int 0, .int 0, .int 0, .int 0, .int 0, .int 0, .int 0, .int 0, .int 0]
theorem zdfX5_ok : zdfX5 = (List.range 12).map (fun k => defaultValue (tyX5 k)) := by decide +kernel
theorem zinX6 : ∀ w ∈ u_ws RX6 TX6 7, w ∈ zTb zg := by
  have h : ∀ w ∈ [u_lay RX6 TX6 0, u_lay RX6 TX6 1, u_lay RX6 TX6 2, u_lay RX6 TX6 3, u_lay RX6 TX6 4, u_lay RX6 TX6 5, u_lay RX6 TX6 6], w ∈ ztb := (z_cl zw_1107 (z_cl zw_1108 (z_cl zw_1109 (z_cl zw_1110 (z_cl zw_1111 (z_cl zw_1112 (z_cl zw_1113 z_nl)))))))
  exact h
def zdfX6 : List Value := [.null, .int 0, .int 0, .int 0, .int 0, .int 0, .int 0]
theorem zdfX6_ok : zdfX6 = (List.range 7).map (fun k => defaultValue (tyX6 k)) := by decide +kernel
theorem zinX7 : ∀ w ∈ u_ws RX7 TX7 4, w ∈ zTb zg := by
  have h : ∀ w ∈ [u_lay RX7 TX7 0, u_lay RX7 TX7 1, u_lay RX7 TX7 2, u_lay RX7 TX7 3], w ∈ ztb := (z_cl zw_1114 (z_cl zw_1115 (z_cl zw_1116 (z_cl zw_1117 z_nl))))
  exact h
def zdfX7 : List Value := [.null, .null, .null, .int 0]
theorem zdfX7_ok : zdfX7 = (List.range 4).map (fun k => defaultValue (tyX7 k)) := by decide +kernel
theorem zinX8 : ∀ w ∈ u_ws RX8 TX8 6, w ∈ zTb zg := by
  have h : ∀ w ∈ [u_lay RX8 TX8 0, u_lay RX8 TX8 1, u_lay RX8 TX8 2, u_lay RX8 TX8 3, u_lay RX8 TX8 4, u_lay RX8 TX8 5], w ∈ ztb := (z_cl zw_1118 (z_cl zw_1119 (z_cl zw_1120 (z_cl zw_1121 (z_cl zw_1122 (z_cl zw_1123 z_nl))))))
  exact h
def zdfX8 : List Value := [.int 0, .int 0, .null, .null, .int 0, .int 0]
theorem zdfX8_ok : zdfX8 = (List.range 6).map (fun k => defaultValue (tyX8 k)) := by decide +kernel
theorem zinX9 : ∀ w ∈ u_ws RX9 TX9 4, w ∈ zTb zg := by
  have h : ∀ w ∈ [u_lay RX9 TX9 0, u_lay RX9 TX9 1, u_lay RX9 TX9 2, u_lay RX9 TX9 3], w ∈ ztb := (z_cl zw_1124 (z_cl zw_1125 (z_cl zw_1126 (z_cl zw_1127 z_nl))))
  exact h
def zdfX9 : List Value := [.null, .null, .null, .int 0]
theorem zdfX9_ok : zdfX9 = (List.range 4).map (fun k => defaultValue (tyX9 k)) := by decide +kernel
theorem zinX10 : ∀ w ∈ u_ws RX10 TX10 3, w ∈ zTb zg := by
  have h : ∀ w ∈ [u_lay RX10 TX10 0, u_lay RX10 TX10 1, u_lay RX10 TX10 2], w ∈ ztb := (z_cl zw_1128 (z_cl zw_1129 (z_cl zw_1130 z_nl)))
  exact h
def zdfX10 : List Value := [.null, .null, .int 0]
theorem zdfX10_ok : zdfX10 = (List.range 3).map (fun k => defaultValue (tyX10 k)) := by decide +kernel
theorem zinX11 : ∀ w ∈ u_ws RX11 TX11 16, w ∈ zTb zg := by
  have h : ∀ w ∈ [u_lay RX11 TX11 0, u_lay RX11 TX11 1, u_lay RX11 TX11 2, u_lay RX11 TX11 3, u_lay RX11 TX11 4, u_lay RX11 TX11 5, u_lay RX11 TX11 6, u_lay RX11 TX11 7, u_lay RX11 TX11 8, u_lay RX11 TX11 9, u_lay RX11 TX11 10, u_lay RX11 TX11 11, u_lay RX11 TX11 12, u_lay RX11 TX11 13, u_lay RX11 TX11 14, u_lay RX11 TX11 15], w ∈ ztb := (z_cl zw_1131 (z_cl zw_1132 (z_cl zw_1133 (z_cl zw_1134 (z_cl zw_1135 (z_cl zw_1136 (z_cl zw_1137 (z_cl zw_1138 (z_cl zw_1139 (z_cl zw_1140 (z_cl zw_1141 (z_cl zw_1142 (z_cl zw_1143 (z_cl zw_1144 (z_cl zw_1145 (z_cl zw_1146 z_nl))))))))))))))))
  exact h
def zdfX11 : List Value := [.null, .int 0, .int 0, .int 0, .null, .null, .null, .null, .null, .null, .null, .null, .null, .int 0, .null, .int 0]
theorem zdfX11_ok : zdfX11 = (List.range 16).map (fun k => defaultValue (tyX11 k)) := by decide +kernel
theorem zinX12 : ∀ w ∈ u_ws RX12 TX12 73, w ∈ zTb zg := by
  have h : ∀ w ∈ [u_lay RX12 TX12 0, u_lay RX12 TX12 1, u_lay RX12 TX12 2, u_lay RX12 TX12 3, u_lay RX12 TX12 4, u_lay RX12 TX12 5, u_lay RX12 TX12 6, u_lay RX12 TX12 7, u_lay RX12 TX12 8, u_lay RX12 TX12 9, u_lay RX12 TX12 10, u_lay RX12 TX12 11, u_lay RX12 TX12 12, u_lay RX12 TX12 13, u_lay RX12 TX12 14, u_lay RX12 TX12 15, u_lay RX12 TX12 16, u_lay RX12 TX12 17, u_lay RX12 TX12 18, u_lay RX12 TX12 19, u_lay RX12 TX12 20, u_lay RX12 TX12 21, u_lay RX12 TX12 22, u_lay RX12 TX12 23, u_lay RX12 TX12 24, u_lay RX12 TX12 25, u_lay RX12 TX12 26, u_lay RX12 TX12 27, u_lay RX12 TX12 28, u_lay RX12 TX12 29, u_lay RX12 TX12 30, u_lay RX12 TX12 31, u_lay RX12 TX12 32, u_lay RX12 TX12 33, u_lay RX12 TX12 34, u_lay RX12 TX12 35, u_lay RX12 TX12 36, u_lay RX12 TX12 37, u_lay RX12 TX12 38, u_lay RX12 TX12 39, u_lay RX12 TX12 40, u_lay RX12 TX12 41, u_lay RX12 TX12 42, u_lay RX12 TX12 43, u_lay RX12 TX12 44, u_lay RX12 TX12 45, u_lay RX12 TX12 46, u_lay RX12 TX12 47, u_lay RX12 TX12 48, u_lay RX12 TX12 49, u_lay RX12 TX12 50, u_lay RX12 TX12 51, u_lay RX12 TX12 52, u_lay RX12 TX12 53, u_lay RX12 TX12 54, u_lay RX12 TX12 55, u_lay RX12 TX12 56, u_lay RX12 TX12 57, u_lay RX12 TX12 58, u_lay RX12 TX12 59, u_lay RX12 TX12 60, u_lay RX12 TX12 61, u_lay RX12 TX12 62, u_lay RX12 TX12 63, u_lay RX12 TX12 64, u_lay RX12 TX12 65, u_lay RX12 TX12 66, u_lay RX12 TX12 67, u_lay RX12 TX12 68, u_lay RX12 TX12 69, u_lay RX12 TX12 70, u_lay RX12 TX12 71, u_lay RX12 TX12 72], w ∈ ztb := (z_cl zw_1147 (z_cl zw_1148 (z_cl zw_1149 (z_cl zw_1150 (z_cl zw_1151 (z_cl zw_1152 (z_cl zw_1153 (z_cl zw_1154 (z_cl zw_1155 (z_cl zw_1156 (z_cl zw_1157 (z_cl zw_1158 (z_cl zw_1159 (z_cl zw_1160 (z_cl zw_1161 (z_cl zw_1162 (z_cl zw_1163 (z_cl zw_1164 (z_cl zw_1165 (z_cl zw_1166 (z_cl zw_1167 (z_cl zw_1168 (z_cl zw_1169 (z_cl zw_1170 (z_cl zw_1171 (z_cl zw_1172 (z_cl zw_1173 (z_cl zw_1174 (z_cl zw_1175 (z_cl zw_1176 (z_cl zw_1177 (z_cl zw_1178 (z_cl zw_1179 (z_cl zw_1180 (z_cl zw_1181 (z_cl zw_1182 (z_cl zw_1183 (z_cl zw_1184 (z_cl zw_1185 (z_cl zw_1186 (z_cl zw_1187 (z_cl zw_1188 (z_cl zw_1189 (z_cl zw_1190 (z_cl zw_1191 (z_cl zw_1192 (z_cl zw_1193 (z_cl zw_1194 (z_cl zw_1195 (z_cl zw_1196 (z_cl zw_1197 (z_cl zw_1198 (z_cl zw_1199 (z_cl zw_1200 (z_cl zw_1201 (z_cl zw_1202 (z_cl zw_1203 (z_cl zw_1204 (z_cl zw_1205 (z_cl zw_1206 (z_cl zw_1207 (z_cl zw_1208 (z_cl zw_1209 (z_cl zw_1210 (z_cl zw_1211 (z_cl zw_1212 (z_cl zw_1213 (z_cl zw_1214 (z_cl zw_1215 (z_cl zw_1216 (z_cl zw_1217 (z_cl zw_1218 (z_cl zw_1219 z_nl)))))))))))))))))))))))))))))))))))))))))))))))))))))))))))))))))))))))))
  exact h
def zdfX12 : List Value := [.null, .int 0, .int 0, .int 0, .int 0, .int 0, .int 0, .long 0, .int 0, .int 0, .int 0, .int 0, .int 0, .int 0, .null, .null, .null, .null, .null, .null, .null, .null, .null, .null, .null, .null, .null, .null, .null, .null, .null, .null, .null, .int 0, .int 0, .int 0, .null, .null, .null, .null, .null, .int 0, .int 0, .null, .int 0, .int 0, .int 0, .null, .null, .null, .null, .null, .null, .null, .int 0, .int 0, .long 0, .null, .null, .null, .null, .null, .null, .null, .null, .null, .int 0, .null, .null, .null, .null, .null, .int 0]
theorem zdfX12_ok : zdfX12 = (List.range 73).map (fun k => defaultValue (tyX12 k)) := by decide +kernel
def zn_int (n : Nat) : zA := .inl (List.replicate n 0)
theorem zn_int_c : ∀ (h0 n : Nat) (cA : ClassId), vp_cell cA (zua h0 (zn_int n)) = arrV cA n (fun _ => defaultValue .int) := fun h0 n cA => by
  show vp_cell cA ((List.replicate n (0 : Int32)).length, .inl (fun j => (List.replicate n (0 : Int32)).getD j 0)) = _
  rw [z_grep, List.length_replicate]
  rfl
theorem zn_int_n : ∀ n, zaz (zn_int n) = n := fun n => by simp [zaz, zn_int]
def zn_bool (n : Nat) : zA := .inl (List.replicate n 0)
theorem zn_bool_c : ∀ (h0 n : Nat) (cA : ClassId), vp_cell cA (zua h0 (zn_bool n)) = arrV cA n (fun _ => defaultValue .boolean) := fun h0 n cA => by
  show vp_cell cA ((List.replicate n (0 : Int32)).length, .inl (fun j => (List.replicate n (0 : Int32)).getD j 0)) = _
  rw [z_grep, List.length_replicate]
  rfl
theorem zn_bool_n : ∀ n, zaz (zn_bool n) = n := fun n => by simp [zaz, zn_bool]
def zn_long (n : Nat) : zA := .inr (.inl (List.replicate n 0))
theorem zn_long_c : ∀ (h0 n : Nat) (cA : ClassId), vp_cell cA (zua h0 (zn_long n)) = arrV cA n (fun _ => defaultValue .long) := fun h0 n cA => by
  show vp_cell cA ((List.replicate n (0 : Int64)).length, .inr (.inl (fun j => (List.replicate n (0 : Int64)).getD j 0))) = _
  rw [z_grep, List.length_replicate]
  rfl
theorem zn_long_n : ∀ n, zaz (zn_long n) = n := fun n => by simp [zaz, zn_long]
def zn_ref (n : Nat) : zA := .inr (.inr (List.replicate n none))
theorem z_c {g : zG} {i : zI} {pc : Nat} {f : zF} {l : List (Nat × zF)} (h : zOk g i pc f) (k : ∀ q ∈ l, zOk g i q.1 q.2) : ∀ q ∈ (pc, f) :: l, zOk g i q.1 q.2 := List.forall_mem_cons.mpr ⟨h, k⟩
theorem z_n {g : zG} {i : zI} : ∀ q ∈ ([] : List (Nat × zF)), zOk g i q.1 q.2 := fun _ h => absurd h List.not_mem_nil
theorem z_t {g : zG} {i : zI} {hi : Nat} {l : List (Nat × zF)} {t : zT} (h : ∀ q ∈ l, zOk g i q.1 q.2) (k : zTok g i t) : zTok g i ((hi, l) :: t) := List.forall_mem_cons.mpr ⟨h, k⟩
theorem z_tn {g : zG} {i : zI} : zTok g i [] := fun _ h => absurd h List.not_mem_nil
noncomputable abbrev z_iadd : List Value → Option (List Value) := zb (fun x y => x + y)
noncomputable abbrev z_isub : List Value → Option (List Value) := zb (fun x y => x - y)
noncomputable abbrev z_imul : List Value → Option (List Value) := zb (fun x y => x * y)
noncomputable abbrev z_iand : List Value → Option (List Value) := zb (fun x y => x &&& y)
noncomputable abbrev z_ior : List Value → Option (List Value) := zb (fun x y => x ||| y)
noncomputable abbrev z_ixor : List Value → Option (List Value) := zb (fun x y => x ^^^ y)
noncomputable abbrev z_ishl : List Value → Option (List Value) := zb (fun x y => x <<< (y &&& 31))
noncomputable abbrev z_ishr : List Value → Option (List Value) := zb (fun x y => x >>> (y &&& 31))
noncomputable abbrev z_iushr : List Value → Option (List Value) := zb (fun x y => (x.toUInt32 >>> (y.toUInt32 &&& Int32.toUInt32 31)).toInt32)
noncomputable abbrev z_idiv : List Value → Option (List Value) := zdi (fun x y => x / y)
noncomputable abbrev z_irem : List Value → Option (List Value) := zdi (fun x y => x - x / y * y)
noncomputable abbrev z_ladd : List Value → Option (List Value) := zbl (fun x y => x + y)
noncomputable abbrev z_lsub : List Value → Option (List Value) := zbl (fun x y => x - y)
noncomputable abbrev z_lmul : List Value → Option (List Value) := zbl (fun x y => x * y)
noncomputable abbrev z_land : List Value → Option (List Value) := zbl (fun x y => x &&& y)
noncomputable abbrev z_lor : List Value → Option (List Value) := zbl (fun x y => x ||| y)
noncomputable abbrev z_lxor : List Value → Option (List Value) := zbl (fun x y => x ^^^ y)
noncomputable abbrev z_ldiv : List Value → Option (List Value) := zdl (fun x y => x / y)
noncomputable abbrev z_lrem : List Value → Option (List Value) := zdl (fun x y => x - x / y * y)
noncomputable abbrev z_lshl : List Value → Option (List Value) := zbs (fun x y => x <<< (y.toInt64 &&& 63))
noncomputable abbrev z_lshr : List Value → Option (List Value) := zbs (fun x y => x >>> (y.toInt64 &&& 63))
noncomputable abbrev z_lushr : List Value → Option (List Value) := zbs (fun x y => (x.toUInt64 >>> (y.toInt64.toUInt64 &&& Int64.toUInt64 63)).toInt64)
noncomputable abbrev z_if_eq (t : Nat) : zF := zif (fun x => decide (x = 0)) 3 t
noncomputable abbrev z_if_ne (t : Nat) : zF := zif (fun x => !decide (x = 0)) 3 t
noncomputable abbrev z_if_lt (t : Nat) : zF := zif (fun x => decide (x < 0)) 3 t
noncomputable abbrev z_if_ge (t : Nat) : zF := zif (fun x => decide (0 ≤ x)) 3 t
noncomputable abbrev z_if_gt (t : Nat) : zF := zif (fun x => decide (0 < x)) 3 t
noncomputable abbrev z_if_le (t : Nat) : zF := zif (fun x => decide (x ≤ 0)) 3 t
noncomputable abbrev z_ic_eq (t : Nat) : zF := zic (fun x y => decide (x = y)) 3 t
noncomputable abbrev z_ic_ne (t : Nat) : zF := zic (fun x y => !decide (x = y)) 3 t
noncomputable abbrev z_ic_lt (t : Nat) : zF := zic (fun x y => decide (x < y)) 3 t
noncomputable abbrev z_ic_ge (t : Nat) : zF := zic (fun x y => decide (y ≤ x)) 3 t
noncomputable abbrev z_ic_gt (t : Nat) : zF := zic (fun x y => decide (y < x)) 3 t
noncomputable abbrev z_ic_le (t : Nat) : zF := zic (fun x y => decide (x ≤ y)) 3 t
theorem zcal_0 : zcal zg 0 iX0_init 1 := ⟨rfl, ztb_good, zw_1220, zw_510, ⟨by decide, by decide, by decide +kernel⟩, by decide⟩
theorem zcal_1 : zcal zg 1 iX0_moveTo 1 := ⟨rfl, ztb_good, zw_1221, zw_510, ⟨by decide, by decide, by decide +kernel⟩, by decide⟩
theorem zcal_2 : zcal zg 2 iX0_pass 3 := ⟨rfl, ztb_good, zw_1222, zw_510, ⟨by decide, by decide, by decide +kernel⟩, by decide⟩
theorem zcal_3 : zcal zg 3 iX0_lit 2 := ⟨rfl, ztb_good, zw_1223, zw_510, ⟨by decide, by decide, by decide +kernel⟩, by decide⟩
theorem zcal_4 : zcal zg 4 iX0_glow 2 := ⟨rfl, ztb_good, zw_1224, zw_510, ⟨by decide, by decide, by decide +kernel⟩, by decide⟩
theorem zcal_5 : zcal zg 5 iX0_light 2 := ⟨rfl, ztb_good, zw_1225, zw_510, ⟨by decide, by decide, by decide +kernel⟩, by decide⟩
theorem zcal_6 : zcal zg 6 iX0_nextTo 1 := ⟨rfl, ztb_good, zw_1226, zw_510, ⟨by decide, by decide, by decide +kernel⟩, by decide⟩
theorem zcal_7 : zcal zg 7 iX0_countLanterns 2 := ⟨rfl, ztb_good, zw_1227, zw_510, ⟨by decide, by decide, by decide +kernel⟩, by decide⟩
theorem zcal_8 : zcal zg 8 iX0_road 3 := ⟨rfl, ztb_good, zw_1228, zw_510, ⟨by decide, by decide, by decide +kernel⟩, by decide⟩
theorem zcal_9 : zcal zg 9 iX0_walked 3 := ⟨rfl, ztb_good, zw_1229, zw_510, ⟨by decide, by decide, by decide +kernel⟩, by decide⟩
theorem zcal_10 : zcal zg 10 iX0_stepped 2 := ⟨rfl, ztb_good, zw_1230, zw_510, ⟨by decide, by decide, by decide +kernel⟩, by decide⟩
theorem zcal_11 : zcal zg 11 iX0_settle 1 := ⟨rfl, ztb_good, zw_1231, zw_510, ⟨by decide, by decide, by decide +kernel⟩, by decide⟩
theorem zcal_12 : zcal zg 12 iX0_isFound 2 := ⟨rfl, ztb_good, zw_1232, zw_510, ⟨by decide, by decide, by decide +kernel⟩, by decide⟩
theorem zcal_13 : zcal zg 13 iX0_isLost 2 := ⟨rfl, ztb_good, zw_1233, zw_510, ⟨by decide, by decide, by decide +kernel⟩, by decide⟩
theorem zcal_14 : zcal zg 14 iX0_setOut 2 := ⟨rfl, ztb_good, zw_1234, zw_510, ⟨by decide, by decide, by decide +kernel⟩, by decide⟩
theorem zcal_15 : zcal zg 15 iX0_hueOf 2 := ⟨rfl, ztb_good, zw_1235, zw_510, ⟨by decide, by decide, by decide +kernel⟩, by decide⟩
theorem zcal_16 : zcal zg 16 iX0_near 2 := ⟨rfl, ztb_good, zw_1236, zw_510, ⟨by decide, by decide, by decide +kernel⟩, by decide⟩
theorem zcal_17 : zcal zg 17 iX0_isAtHome 2 := ⟨rfl, ztb_good, zw_1237, zw_510, ⟨by decide, by decide, by decide +kernel⟩, by decide⟩
theorem zcal_18 : zcal zg 18 iX0_countAtHome 1 := ⟨rfl, ztb_good, zw_1238, zw_510, ⟨by decide, by decide, by decide +kernel⟩, by decide⟩
theorem zcal_19 : zcal zg 19 iX1_init 0 := ⟨rfl, ztb_good, zw_1239, zw_114, ⟨by decide, by decide, by decide +kernel⟩, by decide⟩
theorem zcal_20 : zcal zg 20 iX1_add 3 := ⟨rfl, ztb_good, zw_1240, zw_114, ⟨by decide, by decide, by decide +kernel⟩, by decide⟩
theorem zcal_21 : zcal zg 21 iX1_copyFrom 1 := ⟨rfl, ztb_good, zw_1241, zw_114, ⟨by decide, by decide, by decide +kernel⟩, by decide⟩
theorem zcal_22 : zcal zg 22 iX2_init 0 := ⟨rfl, ztb_good, zw_1242, zw_504, ⟨by decide, by decide, by decide +kernel⟩, by decide⟩
theorem zcal_23 : zcal zg 23 iX2_push 2 := ⟨rfl, ztb_good, zw_1243, zw_504, ⟨by decide, by decide, by decide +kernel⟩, by decide⟩
theorem zcal_24 : zcal zg 24 iX2_pop 2 := ⟨rfl, ztb_good, zw_1244, zw_504, ⟨by decide, by decide, by decide +kernel⟩, by decide⟩
theorem zcal_25 : zcal zg 25 iX3_init 1 := ⟨rfl, ztb_good, zw_1245, zw_516, ⟨by decide, by decide, by decide +kernel⟩, by decide⟩
theorem zcal_26 : zcal zg 26 iX3_behind 2 := ⟨rfl, ztb_good, zw_1246, zw_516, ⟨by decide, by decide, by decide +kernel⟩, by decide⟩
theorem zcal_27 : zcal zg 27 iX3_nightsTillHome 2 := ⟨rfl, ztb_good, zw_1247, zw_516, ⟨by decide, by decide, by decide +kernel⟩, by decide⟩
theorem zcal_28 : zcal zg 28 iX3_leastLosses 3 := ⟨rfl, ztb_good, zw_1248, zw_516, ⟨by decide, by decide, by decide +kernel⟩, by decide⟩
theorem zcal_29 : zcal zg 29 iX3_turnAll 2 := ⟨rfl, ztb_good, zw_1249, zw_516, ⟨by decide, by decide, by decide +kernel⟩, by decide⟩
theorem zcal_30 : zcal zg 30 iX3_worstFound 3 := ⟨rfl, ztb_good, zw_1250, zw_516, ⟨by decide, by decide, by decide +kernel⟩, by decide⟩
theorem zcal_31 : zcal zg 31 iX3_leastCover 1 := ⟨rfl, ztb_good, zw_1251, zw_516, ⟨by decide, by decide, by decide +kernel⟩, by decide⟩
theorem zcal_32 : zcal zg 32 iX3_lightOf 1 := ⟨rfl, ztb_good, zw_1252, zw_516, ⟨by decide, by decide, by decide +kernel⟩, by decide⟩
theorem zcal_33 : zcal zg 33 iX3_arrange 1 := ⟨rfl, ztb_good, zw_1253, zw_516, ⟨by decide, by decide, by decide +kernel⟩, by decide⟩
theorem zcal_34 : zcal zg 34 iX3_measure 1 := ⟨rfl, ztb_good, zw_1254, zw_516, ⟨by decide, by decide, by decide +kernel⟩, by decide⟩
theorem zcal_35 : zcal zg 35 iX3_weigh 1 := ⟨rfl, ztb_good, zw_1255, zw_516, ⟨by decide, by decide, by decide +kernel⟩, by decide⟩
theorem zcal_36 : zcal zg 36 iX3_worthWith 3 := ⟨rfl, ztb_good, zw_1256, zw_516, ⟨by decide, by decide, by decide +kernel⟩, by decide⟩
theorem zcal_37 : zcal zg 37 iX3_firstBest 2 := ⟨rfl, ztb_good, zw_1257, zw_516, ⟨by decide, by decide, by decide +kernel⟩, by decide⟩
theorem zcal_38 : zcal zg 38 iX3_rowsToHome 2 := ⟨rfl, ztb_good, zw_1258, zw_516, ⟨by decide, by decide, by decide +kernel⟩, by decide⟩
theorem zcal_39 : zcal zg 39 iX3_forgetMet 0 := ⟨rfl, ztb_good, zw_1259, zw_516, ⟨by decide, by decide, by decide +kernel⟩, by decide⟩
theorem zcal_40 : zcal zg 40 iX3_takesMet 2 := ⟨rfl, ztb_good, zw_1260, zw_516, ⟨by decide, by decide, by decide +kernel⟩, by decide⟩
theorem zcal_41 : zcal zg 41 iX3_huesLeft 2 := ⟨rfl, ztb_good, zw_1261, zw_516, ⟨by decide, by decide, by decide +kernel⟩, by decide⟩
theorem zcal_42 : zcal zg 42 iX3_lastMetNight 0 := ⟨rfl, ztb_good, zw_1262, zw_516, ⟨by decide, by decide, by decide +kernel⟩, by decide⟩
theorem zcal_43 : zcal zg 43 iX3_fitsMet 2 := ⟨rfl, ztb_good, zw_1263, zw_516, ⟨by decide, by decide, by decide +kernel⟩, by decide⟩
theorem zcal_44 : zcal zg 44 iX3_findTelling 3 := ⟨rfl, ztb_good, zw_1264, zw_516, ⟨by decide, by decide, by decide +kernel⟩, by decide⟩
theorem zcal_45 : zcal zg 45 iX3_supposeAll 3 := ⟨rfl, ztb_good, zw_1265, zw_516, ⟨by decide, by decide, by decide +kernel⟩, by decide⟩
theorem zcal_46 : zcal zg 46 iX3_mostAlike 2 := ⟨rfl, ztb_good, zw_1266, zw_516, ⟨by decide, by decide, by decide +kernel⟩, by decide⟩
theorem zcal_47 : zcal zg 47 iX4_init 0 := ⟨rfl, ztb_good, zw_1267, zw_488, ⟨by decide, by decide, by decide +kernel⟩, by decide⟩
theorem zcal_48 : zcal zg 48 iX4_clear 0 := ⟨rfl, ztb_good, zw_1268, zw_488, ⟨by decide, by decide, by decide +kernel⟩, by decide⟩
theorem zcal_49 : zcal zg 49 iX4_setFirst 1 := ⟨rfl, ztb_good, zw_1269, zw_488, ⟨by decide, by decide, by decide +kernel⟩, by decide⟩
theorem zcal_50 : zcal zg 50 iX4_hasCell 2 := ⟨rfl, ztb_good, zw_1270, zw_488, ⟨by decide, by decide, by decide +kernel⟩, by decide⟩
theorem zcal_51 : zcal zg 51 iX4_hasFreeCell 2 := ⟨rfl, ztb_good, zw_1271, zw_488, ⟨by decide, by decide, by decide +kernel⟩, by decide⟩
theorem zcal_52 : zcal zg 52 iX4_setSize 2 := ⟨rfl, ztb_good, zw_1272, zw_488, ⟨by decide, by decide, by decide +kernel⟩, by decide⟩
theorem zcal_53 : zcal zg 53 iX4_taken 0 := ⟨rfl, ztb_good, zw_1273, zw_488, ⟨by decide, by decide, by decide +kernel⟩, by decide⟩
theorem zcal_54 : zcal zg 54 iX4_thingNamed 1 := ⟨rfl, ztb_good, zw_1274, zw_488, ⟨by decide, by decide, by decide +kernel⟩, by decide⟩
theorem zcal_55 : zcal zg 55 iX4_isNamed 1 := ⟨rfl, ztb_good, zw_1275, zw_488, ⟨by decide, by decide, by decide +kernel⟩, by decide⟩
theorem zcal_56 : zcal zg 56 iX5_init 0 := ⟨rfl, ztb_good, zw_1276, zw_325, ⟨by decide, by decide, by decide +kernel⟩, by decide⟩
theorem zcal_57 : zcal zg 57 iX5_begin 2 := ⟨rfl, ztb_good, zw_1277, zw_325, ⟨by decide, by decide, by decide +kernel⟩, by decide⟩
theorem zcal_58 : zcal zg 58 iX5_advance 0 := ⟨rfl, ztb_good, zw_1278, zw_325, ⟨by decide, by decide, by decide +kernel⟩, by decide⟩
theorem zcal_59 : zcal zg 59 iX5_readWord 1 := ⟨rfl, ztb_good, zw_1279, zw_325, ⟨by decide, by decide, by decide +kernel⟩, by decide⟩
theorem zcal_60 : zcal zg 60 iX5_readNumber 1 := ⟨rfl, ztb_good, zw_1280, zw_325, ⟨by decide, by decide, by decide +kernel⟩, by decide⟩
theorem zcal_61 : zcal zg 61 iX5_isOwn 1 := ⟨rfl, ztb_good, zw_1281, zw_325, ⟨by decide, by decide, by decide +kernel⟩, by decide⟩
theorem zcal_62 : zcal zg 62 iX5_isSign 1 := ⟨rfl, ztb_good, zw_1282, zw_325, ⟨by decide, by decide, by decide +kernel⟩, by decide⟩
theorem zcal_63 : zcal zg 63 iX5_faults 2 := ⟨rfl, ztb_good, zw_1283, zw_325, ⟨by decide, by decide, by decide +kernel⟩, by decide⟩
theorem zcal_64 : zcal zg 64 iX5_takesOwn 1 := ⟨rfl, ztb_good, zw_1284, zw_325, ⟨by decide, by decide, by decide +kernel⟩, by decide⟩
theorem zcal_65 : zcal zg 65 iX5_takesSign 1 := ⟨rfl, ztb_good, zw_1285, zw_325, ⟨by decide, by decide, by decide +kernel⟩, by decide⟩
theorem zcal_66 : zcal zg 66 iX5_takesName 0 := ⟨rfl, ztb_good, zw_1286, zw_325, ⟨by decide, by decide, by decide +kernel⟩, by decide⟩
theorem zcal_67 : zcal zg 67 iX5_takesNumber 2 := ⟨rfl, ztb_good, zw_1287, zw_325, ⟨by decide, by decide, by decide +kernel⟩, by decide⟩
theorem zcal_68 : zcal zg 68 iX6_init 0 := ⟨rfl, ztb_good, zw_1288, zw_5, ⟨by decide, by decide, by decide +kernel⟩, by decide⟩
theorem zcal_69 : zcal zg 69 iX6_value 2 := ⟨rfl, ztb_good, zw_1289, zw_5, ⟨by decide, by decide, by decide +kernel⟩, by decide⟩
theorem zcal_70 : zcal zg 70 iX6_named 1 := ⟨rfl, ztb_good, zw_1290, zw_5, ⟨by decide, by decide, by decide +kernel⟩, by decide⟩
theorem zcal_71 : zcal zg 71 iX6_joined 3 := ⟨rfl, ztb_good, zw_1291, zw_5, ⟨by decide, by decide, by decide +kernel⟩, by decide⟩
theorem zcal_72 : zcal zg 72 iX6_bounded 1 := ⟨rfl, ztb_good, zw_1292, zw_5, ⟨by decide, by decide, by decide +kernel⟩, by decide⟩
theorem zcal_73 : zcal zg 73 iX7_init 0 := ⟨rfl, ztb_good, zw_1293, zw_218, ⟨by decide, by decide, by decide +kernel⟩, by decide⟩
theorem zcal_74 : zcal zg 74 iX7_clear 0 := ⟨rfl, ztb_good, zw_1294, zw_218, ⟨by decide, by decide, by decide +kernel⟩, by decide⟩
theorem zcal_75 : zcal zg 75 iX7_isTold 1 := ⟨rfl, ztb_good, zw_1295, zw_218, ⟨by decide, by decide, by decide +kernel⟩, by decide⟩
theorem zcal_76 : zcal zg 76 iX7_begin 1 := ⟨rfl, ztb_good, zw_1296, zw_218, ⟨by decide, by decide, by decide +kernel⟩, by decide⟩
theorem zcal_77 : zcal zg 77 iX7_close 1 := ⟨rfl, ztb_good, zw_1297, zw_218, ⟨by decide, by decide, by decide +kernel⟩, by decide⟩
theorem zcal_78 : zcal zg 78 iX7_put 1 := ⟨rfl, ztb_good, zw_1298, zw_218, ⟨by decide, by decide, by decide +kernel⟩, by decide⟩
theorem zcal_79 : zcal zg 79 iX8_init 0 := ⟨rfl, ztb_good, zw_1299, zw_111, ⟨by decide, by decide, by decide +kernel⟩, by decide⟩
theorem zcal_80 : zcal zg 80 iX8_copyFrom 1 := ⟨rfl, ztb_good, zw_1300, zw_111, ⟨by decide, by decide, by decide +kernel⟩, by decide⟩
theorem zcal_81 : zcal zg 81 iX8_isMissing 1 := ⟨rfl, ztb_good, zw_1301, zw_111, ⟨by decide, by decide, by decide +kernel⟩, by decide⟩
theorem zcal_82 : zcal zg 82 iX8_turn 1 := ⟨rfl, ztb_good, zw_1302, zw_111, ⟨by decide, by decide, by decide +kernel⟩, by decide⟩
theorem zcal_83 : zcal zg 83 iX9_init 1 := ⟨rfl, ztb_good, zw_1303, zw_494, ⟨by decide, by decide, by decide +kernel⟩, by decide⟩
theorem zcal_84 : zcal zg 84 iX9_faultKind 0 := ⟨rfl, ztb_good, zw_1304, zw_494, ⟨by decide, by decide, by decide +kernel⟩, by decide⟩
theorem zcal_85 : zcal zg 85 iX9_faultPlace 0 := ⟨rfl, ztb_good, zw_1305, zw_494, ⟨by decide, by decide, by decide +kernel⟩, by decide⟩
theorem zcal_86 : zcal zg 86 iX9_reads 3 := ⟨rfl, ztb_good, zw_1306, zw_494, ⟨by decide, by decide, by decide +kernel⟩, by decide⟩
theorem zcal_87 : zcal zg 87 iX9_takesSize 0 := ⟨rfl, ztb_good, zw_1307, zw_494, ⟨by decide, by decide, by decide +kernel⟩, by decide⟩
theorem zcal_88 : zcal zg 88 iX9_takesStatement 0 := ⟨rfl, ztb_good, zw_1308, zw_494, ⟨by decide, by decide, by decide +kernel⟩, by decide⟩
theorem zcal_89 : zcal zg 89 iX9_takesPace 0 := ⟨rfl, ztb_good, zw_1309, zw_494, ⟨by decide, by decide, by decide +kernel⟩, by decide⟩
theorem zcal_90 : zcal zg 90 iX9_takesGale 0 := ⟨rfl, ztb_good, zw_1310, zw_494, ⟨by decide, by decide, by decide +kernel⟩, by decide⟩
theorem zcal_91 : zcal zg 91 iX9_takesWall 0 := ⟨rfl, ztb_good, zw_1311, zw_494, ⟨by decide, by decide, by decide +kernel⟩, by decide⟩
theorem zcal_92 : zcal zg 92 iX9_takesLack 0 := ⟨rfl, ztb_good, zw_1312, zw_494, ⟨by decide, by decide, by decide +kernel⟩, by decide⟩
theorem zcal_93 : zcal zg 93 iX9_takesHas 0 := ⟨rfl, ztb_good, zw_1313, zw_494, ⟨by decide, by decide, by decide +kernel⟩, by decide⟩
theorem zcal_94 : zcal zg 94 iX9_takesFolk 0 := ⟨rfl, ztb_good, zw_1314, zw_494, ⟨by decide, by decide, by decide +kernel⟩, by decide⟩
theorem zcal_95 : zcal zg 95 iX9_takesRule 1 := ⟨rfl, ztb_good, zw_1315, zw_494, ⟨by decide, by decide, by decide +kernel⟩, by decide⟩
theorem zcal_96 : zcal zg 96 iX9_takesNewName 0 := ⟨rfl, ztb_good, zw_1316, zw_494, ⟨by decide, by decide, by decide +kernel⟩, by decide⟩
theorem zcal_97 : zcal zg 97 iX9_takesCell 1 := ⟨rfl, ztb_good, zw_1317, zw_494, ⟨by decide, by decide, by decide +kernel⟩, by decide⟩
theorem zcal_98 : zcal zg 98 iX10_init 2 := ⟨rfl, ztb_good, zw_1318, zw_332, ⟨by decide, by decide, by decide +kernel⟩, by decide⟩
theorem zcal_99 : zcal zg 99 iX10_begin 2 := ⟨rfl, ztb_good, zw_1319, zw_332, ⟨by decide, by decide, by decide +kernel⟩, by decide⟩
theorem zcal_100 : zcal zg 100 iX10_takesTest 1 := ⟨rfl, ztb_good, zw_1320, zw_332, ⟨by decide, by decide, by decide +kernel⟩, by decide⟩
theorem zcal_101 : zcal zg 101 iX10_takesBoth 1 := ⟨rfl, ztb_good, zw_1321, zw_332, ⟨by decide, by decide, by decide +kernel⟩, by decide⟩
theorem zcal_102 : zcal zg 102 iX10_takesFact 1 := ⟨rfl, ztb_good, zw_1322, zw_332, ⟨by decide, by decide, by decide +kernel⟩, by decide⟩
theorem zcal_103 : zcal zg 103 iX10_takesComparison 1 := ⟨rfl, ztb_good, zw_1323, zw_332, ⟨by decide, by decide, by decide +kernel⟩, by decide⟩
theorem zcal_104 : zcal zg 104 iX10_takesSum 1 := ⟨rfl, ztb_good, zw_1324, zw_332, ⟨by decide, by decide, by decide +kernel⟩, by decide⟩
theorem zcal_105 : zcal zg 105 iX10_takesProduct 1 := ⟨rfl, ztb_good, zw_1325, zw_332, ⟨by decide, by decide, by decide +kernel⟩, by decide⟩
theorem zcal_106 : zcal zg 106 iX10_isFactorSign 0 := ⟨rfl, ztb_good, zw_1326, zw_332, ⟨by decide, by decide, by decide +kernel⟩, by decide⟩
theorem zcal_107 : zcal zg 107 iX10_takesPart 1 := ⟨rfl, ztb_good, zw_1327, zw_332, ⟨by decide, by decide, by decide +kernel⟩, by decide⟩
theorem zcal_108 : zcal zg 108 iX10_isValue 1 := ⟨rfl, ztb_good, zw_1328, zw_332, ⟨by decide, by decide, by decide +kernel⟩, by decide⟩
theorem zcal_109 : zcal zg 109 iX10_takesPair 1 := ⟨rfl, ztb_good, zw_1329, zw_332, ⟨by decide, by decide, by decide +kernel⟩, by decide⟩
theorem zcal_110 : zcal zg 110 iX10_opens 2 := ⟨rfl, ztb_good, zw_1330, zw_332, ⟨by decide, by decide, by decide +kernel⟩, by decide⟩
theorem zcal_111 : zcal zg 111 iX11_init 0 := ⟨rfl, ztb_good, zw_1331, zw_1332, ⟨by decide, by decide, by decide +kernel⟩, by decide⟩
theorem zcal_112 : zcal zg 112 iX11_feed 5 := ⟨rfl, ztb_good, zw_1333, zw_1332, ⟨by decide, by decide, by decide +kernel⟩, by decide⟩
theorem zcal_113 : zcal zg 113 iX11_end 1 := ⟨rfl, ztb_good, zw_1334, zw_1332, ⟨by decide, by decide, by decide +kernel⟩, by decide⟩
theorem zcal_114 : zcal zg 114 iX11_quay 0 := ⟨rfl, ztb_good, zw_1335, zw_1332, ⟨by decide, by decide, by decide +kernel⟩, by decide⟩
theorem zcal_115 : zcal zg 115 iX11_fault 1 := ⟨rfl, ztb_good, zw_1336, zw_1332, ⟨by decide, by decide, by decide +kernel⟩, by decide⟩
theorem zcal_116 : zcal zg 116 iX11_has 1 := ⟨rfl, ztb_good, zw_1337, zw_1332, ⟨by decide, by decide, by decide +kernel⟩, by decide⟩
theorem zcal_117 : zcal zg 117 iX11_letter 3 := ⟨rfl, ztb_good, zw_1338, zw_1332, ⟨by decide, by decide, by decide +kernel⟩, by decide⟩
theorem zcal_118 : zcal zg 118 iX11_cell 3 := ⟨rfl, ztb_good, zw_1339, zw_1332, ⟨by decide, by decide, by decide +kernel⟩, by decide⟩
theorem zcal_119 : zcal zg 119 iX11_thing 2 := ⟨rfl, ztb_good, zw_1340, zw_1332, ⟨by decide, by decide, by decide +kernel⟩, by decide⟩
theorem zcal_120 : zcal zg 120 iX11_folk 2 := ⟨rfl, ztb_good, zw_1341, zw_1332, ⟨by decide, by decide, by decide +kernel⟩, by decide⟩
theorem zcal_121 : zcal zg 121 iX11_later 3 := ⟨rfl, ztb_good, zw_1342, zw_1332, ⟨by decide, by decide, by decide +kernel⟩, by decide⟩
theorem zcal_122 : zcal zg 122 iX11_home 1 := ⟨rfl, ztb_good, zw_1343, zw_1332, ⟨by decide, by decide, by decide +kernel⟩, by decide⟩
theorem zcal_123 : zcal zg 123 iX11_missing 2 := ⟨rfl, ztb_good, zw_1344, zw_1332, ⟨by decide, by decide, by decide +kernel⟩, by decide⟩
theorem zcal_124 : zcal zg 124 iX11_losses 2 := ⟨rfl, ztb_good, zw_1345, zw_1332, ⟨by decide, by decide, by decide +kernel⟩, by decide⟩
theorem zcal_125 : zcal zg 125 iX11_worst 2 := ⟨rfl, ztb_good, zw_1346, zw_1332, ⟨by decide, by decide, by decide +kernel⟩, by decide⟩
theorem zcal_126 : zcal zg 126 iX11_cover 0 := ⟨rfl, ztb_good, zw_1347, zw_1332, ⟨by decide, by decide, by decide +kernel⟩, by decide⟩
theorem zcal_127 : zcal zg 127 iX11_send 1 := ⟨rfl, ztb_good, zw_1348, zw_1332, ⟨by decide, by decide, by decide +kernel⟩, by decide⟩
theorem zcal_128 : zcal zg 128 iX11_odds 1 := ⟨rfl, ztb_good, zw_1349, zw_1332, ⟨by decide, by decide, by decide +kernel⟩, by decide⟩
theorem zcal_129 : zcal zg 129 iX11_meet 0 := ⟨rfl, ztb_good, zw_1350, zw_1332, ⟨by decide, by decide, by decide +kernel⟩, by decide⟩
theorem zcal_130 : zcal zg 130 iX11_hues 1 := ⟨rfl, ztb_good, zw_1351, zw_1332, ⟨by decide, by decide, by decide +kernel⟩, by decide⟩
theorem zcal_131 : zcal zg 131 iX11_tells 2 := ⟨rfl, ztb_good, zw_1352, zw_1332, ⟨by decide, by decide, by decide +kernel⟩, by decide⟩
theorem zcal_132 : zcal zg 132 iX11_nights 1 := ⟨rfl, ztb_good, zw_1353, zw_1332, ⟨by decide, by decide, by decide +kernel⟩, by decide⟩
theorem zcal_133 : zcal zg 133 iX11_chance 1 := ⟨rfl, ztb_good, zw_1354, zw_1332, ⟨by decide, by decide, by decide +kernel⟩, by decide⟩
theorem zcal_134 : zcal zg 134 iX11_lose 1 := ⟨rfl, ztb_good, zw_1355, zw_1332, ⟨by decide, by decide, by decide +kernel⟩, by decide⟩
theorem zcal_135 : zcal zg 135 iX11_find 1 := ⟨rfl, ztb_good, zw_1356, zw_1332, ⟨by decide, by decide, by decide +kernel⟩, by decide⟩
theorem zcal_136 : zcal zg 136 iX11_lead 3 := ⟨rfl, ztb_good, zw_1357, zw_1332, ⟨by decide, by decide, by decide +kernel⟩, by decide⟩
theorem zcal_137 : zcal zg 137 iX11_undo 0 := ⟨rfl, ztb_good, zw_1358, zw_1332, ⟨by decide, by decide, by decide +kernel⟩, by decide⟩
theorem zcal_138 : zcal zg 138 iX11_seed 1 := ⟨rfl, ztb_good, zw_1359, zw_1332, ⟨by decide, by decide, by decide +kernel⟩, by decide⟩
theorem zcal_139 : zcal zg 139 iX11_kept 2 := ⟨rfl, ztb_good, zw_1360, zw_1332, ⟨by decide, by decide, by decide +kernel⟩, by decide⟩
theorem zcal_140 : zcal zg 140 iX11_image 0 := ⟨rfl, ztb_good, zw_1361, zw_1332, ⟨by decide, by decide, by decide +kernel⟩, by decide⟩
theorem zcal_141 : zcal zg 141 iX11_octet 1 := ⟨rfl, ztb_good, zw_1362, zw_1332, ⟨by decide, by decide, by decide +kernel⟩, by decide⟩
theorem zcal_142 : zcal zg 142 iX11_on 0 := ⟨rfl, ztb_good, zw_1363, zw_1332, ⟨by decide, by decide, by decide +kernel⟩, by decide⟩
theorem zcal_143 : zcal zg 143 iX11_status 1 := ⟨rfl, ztb_good, zw_1364, zw_1332, ⟨by decide, by decide, by decide +kernel⟩, by decide⟩
theorem zcal_144 : zcal zg 144 iX11_refuse 1 := ⟨rfl, ztb_good, zw_1365, zw_1332, ⟨by decide, by decide, by decide +kernel⟩, by decide⟩
theorem zcal_145 : zcal zg 145 iX11_refused 1 := ⟨rfl, ztb_good, zw_1366, zw_1332, ⟨by decide, by decide, by decide +kernel⟩, by decide⟩
theorem zcal_146 : zcal zg 146 iX11_putOnTape 1 := ⟨rfl, ztb_good, zw_1367, zw_1332, ⟨by decide, by decide, by decide +kernel⟩, by decide⟩
theorem zcal_147 : zcal zg 147 iX11_takeTape 0 := ⟨rfl, ztb_good, zw_1368, zw_1332, ⟨by decide, by decide, by decide +kernel⟩, by decide⟩
theorem zcal_148 : zcal zg 148 iX11_forgetActs 0 := ⟨rfl, ztb_good, zw_1369, zw_1332, ⟨by decide, by decide, by decide +kernel⟩, by decide⟩
theorem zcal_149 : zcal zg 149 iX11_isThing 1 := ⟨rfl, ztb_good, zw_1370, zw_1332, ⟨by decide, by decide, by decide +kernel⟩, by decide⟩
theorem zcal_150 : zcal zg 150 iX11_isFolk 1 := ⟨rfl, ztb_good, zw_1371, zw_1332, ⟨by decide, by decide, by decide +kernel⟩, by decide⟩
theorem zcal_151 : zcal zg 151 iX11_comes 2 := ⟨rfl, ztb_good, zw_1372, zw_1332, ⟨by decide, by decide, by decide +kernel⟩, by decide⟩
theorem zcal_152 : zcal zg 152 iX11_turnByAct 1 := ⟨rfl, ztb_good, zw_1373, zw_1332, ⟨by decide, by decide, by decide +kernel⟩, by decide⟩
theorem zcal_153 : zcal zg 153 iX11_passAndKeep 1 := ⟨rfl, ztb_good, zw_1374, zw_1332, ⟨by decide, by decide, by decide +kernel⟩, by decide⟩
theorem zcal_154 : zcal zg 154 iX11_drawDark 0 := ⟨rfl, ztb_good, zw_1375, zw_1332, ⟨by decide, by decide, by decide +kernel⟩, by decide⟩
theorem zcal_155 : zcal zg 155 iX11_draw 1 := ⟨rfl, ztb_good, zw_1376, zw_1332, ⟨by decide, by decide, by decide +kernel⟩, by decide⟩
theorem zcal_156 : zcal zg 156 iX11_nightOnTape 0 := ⟨rfl, ztb_good, zw_1377, zw_1332, ⟨by decide, by decide, by decide +kernel⟩, by decide⟩
theorem zcal_157 : zcal zg 157 iX11_holdsImage 1 := ⟨rfl, ztb_good, zw_1378, zw_1332, ⟨by decide, by decide, by decide +kernel⟩, by decide⟩
theorem zcal_158 : zcal zg 158 iX11_checkOf 2 := ⟨rfl, ztb_good, zw_1379, zw_1332, ⟨by decide, by decide, by decide +kernel⟩, by decide⟩
theorem zcal_159 : zcal zg 159 iX11_letterOf 2 := ⟨rfl, ztb_good, zw_1380, zw_1332, ⟨by decide, by decide, by decide +kernel⟩, by decide⟩
theorem zcal_160 : zcal zg 160 iX11_placeOf 2 := ⟨rfl, ztb_good, zw_1381, zw_1332, ⟨by decide, by decide, by decide +kernel⟩, by decide⟩
theorem zcal_161 : zcal zg 161 iX11_columnOf 1 := ⟨rfl, ztb_good, zw_1382, zw_1332, ⟨by decide, by decide, by decide +kernel⟩, by decide⟩
theorem zcal_162 : zcal zg 162 iX11_rowOf 1 := ⟨rfl, ztb_good, zw_1383, zw_1332, ⟨by decide, by decide, by decide +kernel⟩, by decide⟩
theorem zcal_163 : zcal zg 163 iX11_bitOf 1 := ⟨rfl, ztb_good, zw_1384, zw_1332, ⟨by decide, by decide, by decide +kernel⟩, by decide⟩
theorem zcal_164 : zcal zg 164 iX12_init 0 := ⟨rfl, ztb_good, zw_1385, zw_1386, ⟨by decide, by decide, by decide +kernel⟩, by decide⟩
theorem zcal_165 : zcal zg 165 iX12_is 3 := ⟨rfl, ztb_good, zw_1387, zw_1386, ⟨by decide, by decide, by decide +kernel⟩, by decide⟩
theorem zcal_166 : zcal zg 166 iX12_put 1 := ⟨rfl, ztb_good, zw_1388, zw_1386, ⟨by decide, by decide, by decide +kernel⟩, by decide⟩
theorem zcal_167 : zcal zg 167 iX12_feed 5 := ⟨rfl, ztb_good, zw_1389, zw_1386, ⟨by decide, by decide, by decide +kernel⟩, by decide⟩
theorem zcal_168 : zcal zg 168 iX12_end 1 := ⟨rfl, ztb_good, zw_1390, zw_1386, ⟨by decide, by decide, by decide +kernel⟩, by decide⟩
theorem zcal_169 : zcal zg 169 iX12_blame 2 := ⟨rfl, ztb_good, zw_1391, zw_1386, ⟨by decide, by decide, by decide +kernel⟩, by decide⟩
theorem zcal_170 : zcal zg 170 iX12_isLetter 1 := ⟨rfl, ztb_good, zw_1392, zw_1386, ⟨by decide, by decide, by decide +kernel⟩, by decide⟩
theorem zcal_171 : zcal zg 171 iX12_isDigit 1 := ⟨rfl, ztb_good, zw_1393, zw_1386, ⟨by decide, by decide, by decide +kernel⟩, by decide⟩
theorem zcal_172 : zcal zg 172 iX12_lex 0 := ⟨rfl, ztb_good, zw_1394, zw_1386, ⟨by decide, by decide, by decide +kernel⟩, by decide⟩
theorem zcal_173 : zcal zg 173 iX12_ahead 0 := ⟨rfl, ztb_good, zw_1395, zw_1386, ⟨by decide, by decide, by decide +kernel⟩, by decide⟩
theorem zcal_174 : zcal zg 174 iX12_isSign 1 := ⟨rfl, ztb_good, zw_1396, zw_1386, ⟨by decide, by decide, by decide +kernel⟩, by decide⟩
theorem zcal_175 : zcal zg 175 iX12_isWord 1 := ⟨rfl, ztb_good, zw_1397, zw_1386, ⟨by decide, by decide, by decide +kernel⟩, by decide⟩
theorem zcal_176 : zcal zg 176 iX12_must 1 := ⟨rfl, ztb_good, zw_1398, zw_1386, ⟨by decide, by decide, by decide +kernel⟩, by decide⟩
theorem zcal_177 : zcal zg 177 iX12_isOwn 1 := ⟨rfl, ztb_good, zw_1399, zw_1386, ⟨by decide, by decide, by decide +kernel⟩, by decide⟩
theorem zcal_178 : zcal zg 178 iX12_thingNamed 1 := ⟨rfl, ztb_good, zw_1400, zw_1386, ⟨by decide, by decide, by decide +kernel⟩, by decide⟩
theorem zcal_179 : zcal zg 179 iX12_isNamed 1 := ⟨rfl, ztb_good, zw_1401, zw_1386, ⟨by decide, by decide, by decide +kernel⟩, by decide⟩
theorem zcal_180 : zcal zg 180 iX12_number 2 := ⟨rfl, ztb_good, zw_1402, zw_1386, ⟨by decide, by decide, by decide +kernel⟩, by decide⟩
theorem zcal_181 : zcal zg 181 iX12_add 2 := ⟨rfl, ztb_good, zw_1403, zw_1386, ⟨by decide, by decide, by decide +kernel⟩, by decide⟩
theorem zcal_182 : zcal zg 182 iX12_rank 1 := ⟨rfl, ztb_good, zw_1404, zw_1386, ⟨by decide, by decide, by decide +kernel⟩, by decide⟩
theorem zcal_183 : zcal zg 183 iX12_joins 1 := ⟨rfl, ztb_good, zw_1405, zw_1386, ⟨by decide, by decide, by decide +kernel⟩, by decide⟩
theorem zcal_184 : zcal zg 184 iX12_holdsBack 1 := ⟨rfl, ztb_good, zw_1406, zw_1386, ⟨by decide, by decide, by decide +kernel⟩, by decide⟩
theorem zcal_185 : zcal zg 185 iX12_pushes 1 := ⟨rfl, ztb_good, zw_1407, zw_1386, ⟨by decide, by decide, by decide +kernel⟩, by decide⟩
theorem zcal_186 : zcal zg 186 iX12_opens 1 := ⟨rfl, ztb_good, zw_1408, zw_1386, ⟨by decide, by decide, by decide +kernel⟩, by decide⟩
theorem zcal_187 : zcal zg 187 iX12_isTest 1 := ⟨rfl, ztb_good, zw_1409, zw_1386, ⟨by decide, by decide, by decide +kernel⟩, by decide⟩
theorem zcal_188 : zcal zg 188 iX12_operand 0 := ⟨rfl, ztb_good, zw_1410, zw_1386, ⟨by decide, by decide, by decide +kernel⟩, by decide⟩
theorem zcal_189 : zcal zg 189 iX12_goesOn 0 := ⟨rfl, ztb_good, zw_1411, zw_1386, ⟨by decide, by decide, by decide +kernel⟩, by decide⟩
theorem zcal_190 : zcal zg 190 iX12_reads 1 := ⟨rfl, ztb_good, zw_1412, zw_1386, ⟨by decide, by decide, by decide +kernel⟩, by decide⟩
theorem zcal_191 : zcal zg 191 iX12_isCounted 1 := ⟨rfl, ztb_good, zw_1413, zw_1386, ⟨by decide, by decide, by decide +kernel⟩, by decide⟩
theorem zcal_192 : zcal zg 192 iX12_must_ 1 := ⟨rfl, ztb_good, zw_1414, zw_1386, ⟨by decide, by decide, by decide +kernel⟩, by decide⟩
theorem zcal_193 : zcal zg 193 iX12_has2 2 := ⟨rfl, ztb_good, zw_1415, zw_1386, ⟨by decide, by decide, by decide +kernel⟩, by decide⟩
theorem zcal_194 : zcal zg 194 iX12_fresh 0 := ⟨rfl, ztb_good, zw_1416, zw_1386, ⟨by decide, by decide, by decide +kernel⟩, by decide⟩
theorem zcal_195 : zcal zg 195 iX12_isInTheWay 1 := ⟨rfl, ztb_good, zw_1417, zw_1386, ⟨by decide, by decide, by decide +kernel⟩, by decide⟩
theorem zcal_196 : zcal zg 196 iX12_cellTold 1 := ⟨rfl, ztb_good, zw_1418, zw_1386, ⟨by decide, by decide, by decide +kernel⟩, by decide⟩
theorem zcal_197 : zcal zg 197 iX12_quaying 0 := ⟨rfl, ztb_good, zw_1419, zw_1386, ⟨by decide, by decide, by decide +kernel⟩, by decide⟩
theorem zcal_198 : zcal zg 198 iX12_telling 2 := ⟨rfl, ztb_good, zw_1420, zw_1386, ⟨by decide, by decide, by decide +kernel⟩, by decide⟩
theorem zcal_199 : zcal zg 199 iX12_walling 0 := ⟨rfl, ztb_good, zw_1421, zw_1386, ⟨by decide, by decide, by decide +kernel⟩, by decide⟩
theorem zcal_200 : zcal zg 200 iX12_lacking 0 := ⟨rfl, ztb_good, zw_1422, zw_1386, ⟨by decide, by decide, by decide +kernel⟩, by decide⟩
theorem zcal_201 : zcal zg 201 iX12_having 0 := ⟨rfl, ztb_good, zw_1423, zw_1386, ⟨by decide, by decide, by decide +kernel⟩, by decide⟩
theorem zcal_202 : zcal zg 202 iX12_folking 0 := ⟨rfl, ztb_good, zw_1424, zw_1386, ⟨by decide, by decide, by decide +kernel⟩, by decide⟩
theorem zcal_203 : zcal zg 203 iX12_reading 1 := ⟨rfl, ztb_good, zw_1425, zw_1386, ⟨by decide, by decide, by decide +kernel⟩, by decide⟩
theorem zcal_204 : zcal zg 204 iX12_statement 0 := ⟨rfl, ztb_good, zw_1426, zw_1386, ⟨by decide, by decide, by decide +kernel⟩, by decide⟩
theorem zcal_205 : zcal zg 205 iX12_finishes 1 := ⟨rfl, ztb_good, zw_1427, zw_1386, ⟨by decide, by decide, by decide +kernel⟩, by decide⟩
theorem zcal_206 : zcal zg 206 iX12_quay 0 := ⟨rfl, ztb_good, zw_1428, zw_1386, ⟨by decide, by decide, by decide +kernel⟩, by decide⟩
theorem zcal_207 : zcal zg 207 iX12_fault 1 := ⟨rfl, ztb_good, zw_1429, zw_1386, ⟨by decide, by decide, by decide +kernel⟩, by decide⟩
theorem zcal_208 : zcal zg 208 iX12_refuses 1 := ⟨rfl, ztb_good, zw_1430, zw_1386, ⟨by decide, by decide, by decide +kernel⟩, by decide⟩
theorem zcal_209 : zcal zg 209 iX12_status 1 := ⟨rfl, ztb_good, zw_1431, zw_1386, ⟨by decide, by decide, by decide +kernel⟩, by decide⟩
theorem zcal_210 : zcal zg 210 iX12_copies 2 := ⟨rfl, ztb_good, zw_1432, zw_1386, ⟨by decide, by decide, by decide +kernel⟩, by decide⟩
theorem zcal_211 : zcal zg 211 iX12_begin 0 := ⟨rfl, ztb_good, zw_1433, zw_1386, ⟨by decide, by decide, by decide +kernel⟩, by decide⟩
theorem zcal_212 : zcal zg 212 iX12_slot 1 := ⟨rfl, ztb_good, zw_1434, zw_1386, ⟨by decide, by decide, by decide +kernel⟩, by decide⟩
theorem zcal_213 : zcal zg 213 iX12_keeps 0 := ⟨rfl, ztb_good, zw_1435, zw_1386, ⟨by decide, by decide, by decide +kernel⟩, by decide⟩
theorem zcal_214 : zcal zg 214 iX12_undo 0 := ⟨rfl, ztb_good, zw_1436, zw_1386, ⟨by decide, by decide, by decide +kernel⟩, by decide⟩
theorem zcal_215 : zcal zg 215 iX12_within 1 := ⟨rfl, ztb_good, zw_1437, zw_1386, ⟨by decide, by decide, by decide +kernel⟩, by decide⟩
theorem zcal_216 : zcal zg 216 iX12_floor 2 := ⟨rfl, ztb_good, zw_1438, zw_1386, ⟨by decide, by decide, by decide +kernel⟩, by decide⟩
theorem zcal_217 : zcal zg 217 iX12_two 3 := ⟨rfl, ztb_good, zw_1439, zw_1386, ⟨by decide, by decide, by decide +kernel⟩, by decide⟩
theorem zcal_218 : zcal zg 218 iX12_reckons 1 := ⟨rfl, ztb_good, zw_1440, zw_1386, ⟨by decide, by decide, by decide +kernel⟩, by decide⟩
theorem zcal_219 : zcal zg 219 iX12_isTold 1 := ⟨rfl, ztb_good, zw_1441, zw_1386, ⟨by decide, by decide, by decide +kernel⟩, by decide⟩
theorem zcal_220 : zcal zg 220 iX12_bits 1 := ⟨rfl, ztb_good, zw_1442, zw_1386, ⟨by decide, by decide, by decide +kernel⟩, by decide⟩
theorem zcal_221 : zcal zg 221 iX12_isCell 2 := ⟨rfl, ztb_good, zw_1443, zw_1386, ⟨by decide, by decide, by decide +kernel⟩, by decide⟩
theorem zcal_222 : zcal zg 222 iX12_isCellOf 1 := ⟨rfl, ztb_good, zw_1444, zw_1386, ⟨by decide, by decide, by decide +kernel⟩, by decide⟩
theorem zcal_223 : zcal zg 223 iX12_isWall 1 := ⟨rfl, ztb_good, zw_1445, zw_1386, ⟨by decide, by decide, by decide +kernel⟩, by decide⟩
theorem zcal_224 : zcal zg 224 iX12_besideOf 2 := ⟨rfl, ztb_good, zw_1446, zw_1386, ⟨by decide, by decide, by decide +kernel⟩, by decide⟩
theorem zcal_225 : zcal zg 225 iX12_lays 2 := ⟨rfl, ztb_good, zw_1447, zw_1386, ⟨by decide, by decide, by decide +kernel⟩, by decide⟩
theorem zcal_226 : zcal zg 226 iX12_glowOf 2 := ⟨rfl, ztb_good, zw_1448, zw_1386, ⟨by decide, by decide, by decide +kernel⟩, by decide⟩
theorem zcal_227 : zcal zg 227 iX12_gap 2 := ⟨rfl, ztb_good, zw_1449, zw_1386, ⟨by decide, by decide, by decide +kernel⟩, by decide⟩
theorem zcal_228 : zcal zg 228 iX12_lights 2 := ⟨rfl, ztb_good, zw_1450, zw_1386, ⟨by decide, by decide, by decide +kernel⟩, by decide⟩
theorem zcal_229 : zcal zg 229 iX12_leads 2 := ⟨rfl, ztb_good, zw_1451, zw_1386, ⟨by decide, by decide, by decide +kernel⟩, by decide⟩
theorem zcal_230 : zcal zg 230 iX12_walks 2 := ⟨rfl, ztb_good, zw_1452, zw_1386, ⟨by decide, by decide, by decide +kernel⟩, by decide⟩
theorem zcal_231 : zcal zg 231 iX12_isHome 2 := ⟨rfl, ztb_good, zw_1453, zw_1386, ⟨by decide, by decide, by decide +kernel⟩, by decide⟩
theorem zcal_232 : zcal zg 232 iX12_writesDown 3 := ⟨rfl, ztb_good, zw_1454, zw_1386, ⟨by decide, by decide, by decide +kernel⟩, by decide⟩
theorem zcal_233 : zcal zg 233 iX12_turnsOver 2 := ⟨rfl, ztb_good, zw_1455, zw_1386, ⟨by decide, by decide, by decide +kernel⟩, by decide⟩
theorem zcal_234 : zcal zg 234 iX12_isTurned 2 := ⟨rfl, ztb_good, zw_1456, zw_1386, ⟨by decide, by decide, by decide +kernel⟩, by decide⟩
theorem zcal_235 : zcal zg 235 iX12_ticks 2 := ⟨rfl, ztb_good, zw_1457, zw_1386, ⟨by decide, by decide, by decide +kernel⟩, by decide⟩
theorem zcal_236 : zcal zg 236 iX12_isThing 1 := ⟨rfl, ztb_good, zw_1458, zw_1386, ⟨by decide, by decide, by decide +kernel⟩, by decide⟩
theorem zcal_237 : zcal zg 237 iX12_isFolk 1 := ⟨rfl, ztb_good, zw_1459, zw_1386, ⟨by decide, by decide, by decide +kernel⟩, by decide⟩
theorem zcal_238 : zcal zg 238 iX12_homes 1 := ⟨rfl, ztb_good, zw_1460, zw_1386, ⟨by decide, by decide, by decide +kernel⟩, by decide⟩
theorem zcal_239 : zcal zg 239 iX12_has 1 := ⟨rfl, ztb_good, zw_1461, zw_1386, ⟨by decide, by decide, by decide +kernel⟩, by decide⟩
theorem zcal_240 : zcal zg 240 iX12_letter 3 := ⟨rfl, ztb_good, zw_1462, zw_1386, ⟨by decide, by decide, by decide +kernel⟩, by decide⟩
theorem zcal_241 : zcal zg 241 iX12_cell 3 := ⟨rfl, ztb_good, zw_1463, zw_1386, ⟨by decide, by decide, by decide +kernel⟩, by decide⟩
theorem zcal_242 : zcal zg 242 iX12_partOf 2 := ⟨rfl, ztb_good, zw_1464, zw_1386, ⟨by decide, by decide, by decide +kernel⟩, by decide⟩
theorem zcal_243 : zcal zg 243 iX12_thing 2 := ⟨rfl, ztb_good, zw_1465, zw_1386, ⟨by decide, by decide, by decide +kernel⟩, by decide⟩
theorem zcal_244 : zcal zg 244 iX12_folk 2 := ⟨rfl, ztb_good, zw_1466, zw_1386, ⟨by decide, by decide, by decide +kernel⟩, by decide⟩
theorem zcal_245 : zcal zg 245 iX12_isAhead 3 := ⟨rfl, ztb_good, zw_1467, zw_1386, ⟨by decide, by decide, by decide +kernel⟩, by decide⟩
theorem zcal_246 : zcal zg 246 iX12_runsOn 1 := ⟨rfl, ztb_good, zw_1468, zw_1386, ⟨by decide, by decide, by decide +kernel⟩, by decide⟩
theorem zcal_247 : zcal zg 247 iX12_later 3 := ⟨rfl, ztb_good, zw_1469, zw_1386, ⟨by decide, by decide, by decide +kernel⟩, by decide⟩
theorem zcal_248 : zcal zg 248 iX12_home 1 := ⟨rfl, ztb_good, zw_1470, zw_1386, ⟨by decide, by decide, by decide +kernel⟩, by decide⟩
theorem zcal_249 : zcal zg 249 iX12_missing 2 := ⟨rfl, ztb_good, zw_1471, zw_1386, ⟨by decide, by decide, by decide +kernel⟩, by decide⟩
theorem zcal_250 : zcal zg 250 iX12_turnsAll 1 := ⟨rfl, ztb_good, zw_1472, zw_1386, ⟨by decide, by decide, by decide +kernel⟩, by decide⟩
theorem zcal_251 : zcal zg 251 iX12_losses 2 := ⟨rfl, ztb_good, zw_1473, zw_1386, ⟨by decide, by decide, by decide +kernel⟩, by decide⟩
theorem zcal_252 : zcal zg 252 iX12_worst 2 := ⟨rfl, ztb_good, zw_1474, zw_1386, ⟨by decide, by decide, by decide +kernel⟩, by decide⟩
theorem zcal_253 : zcal zg 253 iX12_cover 0 := ⟨rfl, ztb_good, zw_1475, zw_1386, ⟨by decide, by decide, by decide +kernel⟩, by decide⟩
theorem zcal_254 : zcal zg 254 iX12_from 2 := ⟨rfl, ztb_good, zw_1476, zw_1386, ⟨by decide, by decide, by decide +kernel⟩, by decide⟩
theorem zcal_255 : zcal zg 255 iX12_costOf 3 := ⟨rfl, ztb_good, zw_1477, zw_1386, ⟨by decide, by decide, by decide +kernel⟩, by decide⟩
theorem zcal_256 : zcal zg 256 iX12_sends 0 := ⟨rfl, ztb_good, zw_1478, zw_1386, ⟨by decide, by decide, by decide +kernel⟩, by decide⟩
theorem zcal_257 : zcal zg 257 iX12_send 1 := ⟨rfl, ztb_good, zw_1479, zw_1386, ⟨by decide, by decide, by decide +kernel⟩, by decide⟩
theorem zcal_258 : zcal zg 258 iX12_odds 1 := ⟨rfl, ztb_good, zw_1480, zw_1386, ⟨by decide, by decide, by decide +kernel⟩, by decide⟩
theorem zcal_259 : zcal zg 259 iX12_meet 0 := ⟨rfl, ztb_good, zw_1481, zw_1386, ⟨by decide, by decide, by decide +kernel⟩, by decide⟩
theorem zcal_260 : zcal zg 260 iX12_hueBits 1 := ⟨rfl, ztb_good, zw_1482, zw_1386, ⟨by decide, by decide, by decide +kernel⟩, by decide⟩
theorem zcal_261 : zcal zg 261 iX12_hues 1 := ⟨rfl, ztb_good, zw_1483, zw_1386, ⟨by decide, by decide, by decide +kernel⟩, by decide⟩
theorem zcal_262 : zcal zg 262 iX12_mostBy 3 := ⟨rfl, ztb_good, zw_1484, zw_1386, ⟨by decide, by decide, by decide +kernel⟩, by decide⟩
theorem zcal_263 : zcal zg 263 iX12_tells 2 := ⟨rfl, ztb_good, zw_1485, zw_1386, ⟨by decide, by decide, by decide +kernel⟩, by decide⟩
theorem zcal_264 : zcal zg 264 iX12_nights 1 := ⟨rfl, ztb_good, zw_1486, zw_1386, ⟨by decide, by decide, by decide +kernel⟩, by decide⟩
theorem zcal_265 : zcal zg 265 iX12_draw 1 := ⟨rfl, ztb_good, zw_1487, zw_1386, ⟨by decide, by decide, by decide +kernel⟩, by decide⟩
theorem zcal_266 : zcal zg 266 iX12_chance 1 := ⟨rfl, ztb_good, zw_1488, zw_1386, ⟨by decide, by decide, by decide +kernel⟩, by decide⟩
theorem zcal_267 : zcal zg 267 iX12_turnsNow 2 := ⟨rfl, ztb_good, zw_1489, zw_1386, ⟨by decide, by decide, by decide +kernel⟩, by decide⟩
theorem zcal_268 : zcal zg 268 iX12_lose 1 := ⟨rfl, ztb_good, zw_1490, zw_1386, ⟨by decide, by decide, by decide +kernel⟩, by decide⟩
theorem zcal_269 : zcal zg 269 iX12_find 1 := ⟨rfl, ztb_good, zw_1491, zw_1386, ⟨by decide, by decide, by decide +kernel⟩, by decide⟩
theorem zcal_270 : zcal zg 270 iX12_lead 3 := ⟨rfl, ztb_good, zw_1492, zw_1386, ⟨by decide, by decide, by decide +kernel⟩, by decide⟩
theorem zcal_271 : zcal zg 271 iX12_seed 1 := ⟨rfl, ztb_good, zw_1493, zw_1386, ⟨by decide, by decide, by decide +kernel⟩, by decide⟩
theorem zcal_272 : zcal zg 272 iX12_kept 2 := ⟨rfl, ztb_good, zw_1494, zw_1386, ⟨by decide, by decide, by decide +kernel⟩, by decide⟩
theorem zcal_273 : zcal zg 273 iX12_writes 1 := ⟨rfl, ztb_good, zw_1495, zw_1386, ⟨by decide, by decide, by decide +kernel⟩, by decide⟩
theorem zcal_274 : zcal zg 274 iX12_image 0 := ⟨rfl, ztb_good, zw_1496, zw_1386, ⟨by decide, by decide, by decide +kernel⟩, by decide⟩
theorem zcal_275 : zcal zg 275 iX12_octet 1 := ⟨rfl, ztb_good, zw_1497, zw_1386, ⟨by decide, by decide, by decide +kernel⟩, by decide⟩
theorem zcal_276 : zcal zg 276 iX12_folkOn 2 := ⟨rfl, ztb_good, zw_1498, zw_1386, ⟨by decide, by decide, by decide +kernel⟩, by decide⟩
theorem zcal_277 : zcal zg 277 iX12_comesOn 1 := ⟨rfl, ztb_good, zw_1499, zw_1386, ⟨by decide, by decide, by decide +kernel⟩, by decide⟩
theorem zcal_278 : zcal zg 278 iX12_on 0 := ⟨rfl, ztb_good, zw_1500, zw_1386, ⟨by decide, by decide, by decide +kernel⟩, by decide⟩
theorem zcal_279 : zcal zg 279 iJ6_bitCount_0f7a4 1 := ⟨rfl, ztb_good, zw_1501, zw_1502, ⟨by decide, by decide, by decide +kernel⟩, by decide⟩
theorem zcal_280 : zcal zg 280 iJ13_bitCount_95d88 1 := ⟨rfl, ztb_good, zw_1503, zw_1504, ⟨by decide, by decide, by decide +kernel⟩, by decide⟩
theorem zcal_281 : zcal zg 281 iJ9_floorDiv_7cf53 2 := ⟨rfl, ztb_good, zw_1505, zw_49, ⟨by decide, by decide, by decide +kernel⟩, by decide⟩
theorem zcal_282 : zcal zg 282 iJ9_floorMod_7cf53 2 := ⟨rfl, ztb_good, zw_1506, zw_49, ⟨by decide, by decide, by decide +kernel⟩, by decide⟩
theorem zcal_283 : zcal zg 283 iJ9_max_7cf53 2 := ⟨rfl, ztb_good, zw_53, zw_49, ⟨by decide, by decide, by decide +kernel⟩, by decide⟩
theorem zcal_284 : zcal zg 284 iJ9_min_7cf53 2 := ⟨rfl, ztb_good, zw_50, zw_49, ⟨by decide, by decide, by decide +kernel⟩, by decide⟩
theorem zcal_285 : zcal zg 285 iJ0_length_8abf5 0 := ⟨rfl, ztb_good, zw_1507, zw_1508, ⟨by decide, by decide, by decide +kernel⟩, by decide⟩
theorem zcal_286 : zcal zg 286 iJ0_charAt_5068e 1 := ⟨rfl, ztb_good, zw_1509, zw_1508, ⟨by decide, by decide, by decide +kernel⟩, by decide⟩
theorem zcal_287 : zcal zg 287 iJ0_coder_7d493 0 := ⟨rfl, ztb_good, zw_1510, zw_1508, ⟨by decide, by decide, by decide +kernel⟩, by decide⟩
theorem zcal_288 : zcal zg 288 iJ0_isLatin1_aae02 0 := ⟨rfl, ztb_good, zw_1511, zw_1508, ⟨by decide, by decide, by decide +kernel⟩, by decide⟩
theorem zcal_289 : zcal zg 289 iJ0_checkIndex_df160 2 := ⟨rfl, ztb_good, zw_1512, zw_1508, ⟨by decide, by decide, by decide +kernel⟩, by decide⟩
theorem zcal_290 : zcal zg 290 iJ1_charAt_3b067 2 := ⟨rfl, ztb_good, zw_1513, zw_1514, ⟨by decide, by decide, by decide +kernel⟩, by decide⟩
theorem zcal_291 : zcal zg 291 iJ3_checkIndex_8e157 3 := ⟨rfl, ztb_good, zw_1515, zw_1516, ⟨by decide, by decide, by decide +kernel⟩, by decide⟩
