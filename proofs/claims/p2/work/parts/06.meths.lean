abbrev zX0_init : zMt := (yX0_init, cX0_init, 1, none, true, 30, 700, 2, 0)
abbrev zX0_add : zMt := (yX0_add, cX0_add, 2, none, false, 0, 0, 0, 1)
abbrev zX0_tally : zMt := (yX0_tally, cX0_tally, 6, (some .long), false, 0, 0, 0, 3)
abbrev zX0_waysOf : zMt := (yX0_waysOf, cX0_waysOf, 6, (some .long), false, 0, 0, 0, 3)
abbrev zX0_isBracketed : zMt := (yX0_isBracketed, cX0_isBracketed, 3, (some .boolean), false, 0, 0, 0, 2)
abbrev zX0_bareWays : zMt := (yX0_bareWays, cX0_bareWays, 8, (some .long), false, 0, 0, 0, 3)
abbrev zX0_kindByEnds : zMt := (yX0_kindByEnds, cX0_kindByEnds, 5, (some .int), false, 0, 0, 0, 2)
abbrev zX0_partFrom : zMt := (yX0_partFrom, cX0_partFrom, 2, (some .int), false, 0, 0, 1, 2)
abbrev zX0_partTo : zMt := (yX0_partTo, cX0_partTo, 2, (some .int), false, 0, 0, 1, 2)
abbrev zX0_numberIn : zMt := (yX0_numberIn, cX0_numberIn, 6, (some .int), false, 0, 0, 0, 2)
abbrev zX0_build : zMt := (yX0_build, cX0_build, 4, (some .int), false, 0, 0, 0, 2)
abbrev zX0_buildSpan : zMt := (yX0_buildSpan, cX0_buildSpan, 14, (some .int), false, 0, 0, 0, 4)
abbrev zX0_buildBare : zMt := (yX0_buildBare, cX0_buildBare, 8, (some .int), false, 0, 0, 0, 5)
abbrev zX0_buildPair : zMt := (yX0_buildPair, cX0_buildPair, 16, (some .int), false, 0, 0, 0, 5)
abbrev zX0_placeOf : zMt := (yX0_placeOf, cX0_placeOf, 3, (some .long), false, 0, 0, 0, 2)
abbrev zX0_placeIn : zMt := (yX0_placeIn, cX0_placeIn, 10, (some .long), false, 0, 0, 0, 4)
abbrev zX0_placeBare : zMt := (yX0_placeBare, cX0_placeBare, 6, (some .long), false, 0, 0, 0, 4)
abbrev zX0_placePair : zMt := (yX0_placePair, cX0_placePair, 15, (some .long), false, 0, 0, 0, 4)
abbrev zX1_isPair : zMt := (yX1_isPair, cX1_isPair, 1, (some .boolean), false, 0, 0, 1, 1)
abbrev zX1_isPrefix : zMt := (yX1_isPrefix, cX1_isPrefix, 1, (some .boolean), false, 0, 0, 1, 1)
abbrev zX1_hasBit : zMt := (yX1_hasBit, cX1_hasBit, 2, (some .boolean), false, 0, 0, 1, 2)
abbrev zX1_withBit : zMt := (yX1_withBit, cX1_withBit, 3, (some .int), false, 0, 0, 1, 3)
abbrev zX1_isDoubtful : zMt := (yX1_isDoubtful, cX1_isDoubtful, 3, (some .boolean), false, 0, 0, 1, 3)
abbrev zX2_init : zMt := (yX2_init, cX2_init, 1, none, true, 20, 3000, 2, 0)
abbrev zX2_has : zMt := (yX2_has, cX2_has, 2, (some .boolean), false, 0, 0, 0, 1)
abbrev zX2_isFull : zMt := (yX2_isFull, cX2_isFull, 1, (some .boolean), false, 0, 0, 0, 0)
abbrev zX2_sizeOf : zMt := (yX2_sizeOf, cX2_sizeOf, 2, (some .int), false, 0, 0, 0, 1)
abbrev zX2_partOf : zMt := (yX2_partOf, cX2_partOf, 3, (some .int), false, 0, 0, 0, 2)
abbrev zX2_put : zMt := (yX2_put, cX2_put, 6, (some .int), false, 0, 0, 0, 4)
abbrev zX2_addPart : zMt := (yX2_addPart, cX2_addPart, 3, none, false, 0, 0, 0, 2)
abbrev zX2_ownWords : zMt := (yX2_ownWords, cX2_ownWords, 2, (some .int), false, 0, 0, 1, 2)
abbrev zX2_firstAlike : zMt := (yX2_firstAlike, cX2_firstAlike, 3, (some .int), false, 0, 0, 0, 1)
abbrev zX2_shapeOf : zMt := (yX2_shapeOf, cX2_shapeOf, 2, (some .int), false, 0, 0, 0, 1)
abbrev zX2_isSameTop : zMt := (yX2_isSameTop, cX2_isSameTop, 3, (some .boolean), false, 0, 0, 0, 2)
abbrev zX2_isAlike : zMt := (yX2_isAlike, cX2_isAlike, 3, (some .boolean), false, 0, 0, 0, 2)
abbrev zX2_isRight : zMt := (yX2_isRight, cX2_isRight, 3, (some .boolean), false, 0, 0, 0, 2)
abbrev zX2_timesWithin : zMt := (yX2_timesWithin, cX2_timesWithin, 4, (some .int), false, 0, 0, 0, 2)
abbrev zX2_tallyOf : zMt := (yX2_tallyOf, cX2_tallyOf, 2, (some .int), false, 0, 0, 0, 1)
abbrev zX2_firstUnlike : zMt := (yX2_firstUnlike, cX2_firstUnlike, 9, (some .int), false, 0, 0, 0, 2)
abbrev zX2_differenceOf : zMt := (yX2_differenceOf, cX2_differenceOf, 3, (some .int), false, 0, 0, 0, 2)
abbrev zX2_exchangesOf : zMt := (yX2_exchangesOf, cX2_exchangesOf, 3, (some .int), false, 0, 0, 0, 2)
abbrev zX2_layKinds : zMt := (yX2_layKinds, cX2_layKinds, 3, none, false, 0, 0, 0, 2)
abbrev zX2_difference : zMt := (yX2_difference, cX2_difference, 4, (some .int), false, 0, 0, 0, 3)
abbrev zX2_exchanges : zMt := (yX2_exchanges, cX2_exchanges, 4, (some .int), false, 0, 0, 0, 3)
abbrev zX2_layKindsFrom : zMt := (yX2_layKindsFrom, cX2_layKindsFrom, 6, (some .int), false, 0, 0, 0, 4)
abbrev zX3_init : zMt := (yX3_init, cX3_init, 1, none, true, 2, 100, 2, 0)
abbrev zX3_drop : zMt := (yX3_drop, cX3_drop, 1, none, false, 0, 0, 0, 0)
abbrev zX3_holdNode : zMt := (yX3_holdNode, cX3_holdNode, 4, none, false, 0, 0, 0, 3)
abbrev zX3_holdNoughts : zMt := (yX3_holdNoughts, cX3_holdNoughts, 4, none, false, 0, 0, 0, 2)
abbrev zX3_holdRow : zMt := (yX3_holdRow, cX3_holdRow, 5, none, false, 0, 0, 0, 3)
abbrev zX3_hasRow : zMt := (yX3_hasRow, cX3_hasRow, 1, (some .boolean), false, 0, 0, 0, 0)
abbrev zX3_hasSpan : zMt := (yX3_hasSpan, cX3_hasSpan, 3, (some .boolean), false, 0, 0, 0, 2)
abbrev zX3_weighNode : zMt := (yX3_weighNode, cX3_weighNode, 2, (some .int), false, 0, 0, 0, 0)
abbrev zX4_init : zMt := (yX4_init, cX4_init, 1, none, true, 2, 200, 2, 0)
abbrev zX4_isTooLong : zMt := (yX4_isTooLong, cX4_isTooLong, 1, (some .boolean), false, 0, 0, 0, 0)
abbrev zX4_sayInStyle : zMt := (yX4_sayInStyle, cX4_sayInStyle, 5, none, false, 0, 0, 0, 4)
abbrev zX4_saySparingly : zMt := (yX4_saySparingly, cX4_saySparingly, 3, none, false, 0, 0, 0, 2)
abbrev zX4_isSameAs : zMt := (yX4_isSameAs, cX4_isSameAs, 3, (some .boolean), false, 0, 0, 0, 1)
abbrev zX4_tell : zMt := (yX4_tell, cX4_tell, 5, none, false, 0, 0, 0, 4)
abbrev zX4_tellBare : zMt := (yX4_tellBare, cX4_tellBare, 8, none, false, 0, 0, 0, 3)
abbrev zX4_isPartKept : zMt := (yX4_isPartKept, cX4_isPartKept, 6, (some .boolean), false, 0, 0, 0, 4)
abbrev zX4_addDigits : zMt := (yX4_addDigits, cX4_addDigits, 4, none, false, 0, 0, 0, 1)
abbrev zX4_add : zMt := (yX4_add, cX4_add, 2, none, false, 0, 0, 0, 1)
abbrev zX5_init : zMt := (yX5_init, cX5_init, 1, none, true, 4, 200, 2, 0)
abbrev zX5_isBegun : zMt := (yX5_isBegun, cX5_isBegun, 1, (some .boolean), false, 0, 0, 0, 0)
abbrev zX5_top : zMt := (yX5_top, cX5_top, 1, (some .int), false, 0, 0, 0, 0)
abbrev zX5_here : zMt := (yX5_here, cX5_here, 1, (some .int), false, 0, 0, 0, 0)
abbrev zX5_beginAt : zMt := (yX5_beginAt, cX5_beginAt, 2, none, false, 0, 0, 0, 1)
abbrev zX5_stepDown : zMt := (yX5_stepDown, cX5_stepDown, 4, (some .boolean), false, 0, 0, 0, 2)
abbrev zX5_stepUp : zMt := (yX5_stepUp, cX5_stepUp, 1, (some .boolean), false, 0, 0, 0, 0)
abbrev zX5_stepBeside : zMt := (yX5_stepBeside, cX5_stepBeside, 4, (some .boolean), false, 0, 0, 0, 1)
abbrev zX5_asNumber : zMt := (yX5_asNumber, cX5_asNumber, 3, (some .int), false, 0, 0, 0, 0)
abbrev zX5_follow : zMt := (yX5_follow, cX5_follow, 5, (some .boolean), false, 0, 0, 0, 2)
abbrev zX5_leadsSomewhere : zMt := (yX5_leadsSomewhere, cX5_leadsSomewhere, 6, (some .boolean), false, 0, 0, 0, 2)
abbrev zX6_init : zMt := (yX6_init, cX6_init, 2, none, true, 200, 10000, 2, 0)
abbrev zX6_leaf : zMt := (yX6_leaf, cX6_leaf, 3, (some .int), false, 0, 0, 0, 2)
abbrev zX6_node : zMt := (yX6_node, cX6_node, 6, (some .int), false, 0, 0, 0, 3)
abbrev zX6_undo : zMt := (yX6_undo, cX6_undo, 1, (some .int), false, 0, 0, 0, 0)
abbrev zX6_means : zMt := (yX6_means, cX6_means, 4, (some .int), false, 0, 0, 0, 2)
abbrev zX6_look : zMt := (yX6_look, cX6_look, 3, (some .int), false, 0, 0, 0, 2)
abbrev zX6_alike : zMt := (yX6_alike, cX6_alike, 3, (some .int), false, 0, 0, 0, 2)
abbrev zX6_times : zMt := (yX6_times, cX6_times, 3, (some .int), false, 0, 0, 0, 2)
abbrev zX6_keeps : zMt := (yX6_keeps, cX6_keeps, 5, (some .int), false, 0, 0, 0, 3)
abbrev zX6_words : zMt := (yX6_words, cX6_words, 3, (some .int), false, 0, 0, 0, 2)
abbrev zX6_word : zMt := (yX6_word, cX6_word, 4, (some .int), false, 0, 0, 0, 3)
abbrev zX6_sound : zMt := (yX6_sound, cX6_sound, 4, (some .int), false, 0, 0, 0, 3)
abbrev zX6_clear : zMt := (yX6_clear, cX6_clear, 7, (some .int), false, 0, 0, 0, 2)
abbrev zX6_hear : zMt := (yX6_hear, cX6_hear, 4, (some .int), false, 0, 0, 0, 2)
abbrev zX6_listen : zMt := (yX6_listen, cX6_listen, 3, (some .int), false, 0, 0, 0, 2)
abbrev zX6_hush : zMt := (yX6_hush, cX6_hush, 2, (some .int), false, 0, 0, 0, 0)
abbrev zX6_ear : zMt := (yX6_ear, cX6_ear, 2, (some .int), false, 0, 0, 0, 1)
abbrev zX6_readings : zMt := (yX6_readings, cX6_readings, 2, (some .long), false, 0, 0, 0, 1)
abbrev zX6_write : zMt := (yX6_write, cX6_write, 4, (some .int), false, 0, 0, 0, 2)
abbrev zX6_place : zMt := (yX6_place, cX6_place, 5, (some .long), false, 0, 0, 0, 2)
abbrev zX6_doubt : zMt := (yX6_doubt, cX6_doubt, 10, (some .int), false, 0, 0, 0, 3)
abbrev zX6_fewest : zMt := (yX6_fewest, cX6_fewest, 2, (some .int), false, 0, 0, 0, 1)
abbrev zX6_walk : zMt := (yX6_walk, cX6_walk, 2, (some .int), false, 0, 0, 0, 1)
abbrev zX6_go : zMt := (yX6_go, cX6_go, 3, (some .int), false, 0, 0, 0, 1)
abbrev zX6_where : zMt := (yX6_where, cX6_where, 2, (some .int), false, 0, 0, 0, 1)
abbrev zX6_lead : zMt := (yX6_lead, cX6_lead, 2, (some .int), false, 0, 0, 0, 1)
abbrev zX6_glance : zMt := (yX6_glance, cX6_glance, 3, (some .int), false, 0, 0, 0, 2)
abbrev zX6_changed : zMt := (yX6_changed, cX6_changed, 3, (some .int), false, 0, 0, 0, 2)
abbrev zX6_exchanged : zMt := (yX6_exchanged, cX6_exchanged, 3, (some .int), false, 0, 0, 0, 2)
abbrev zX6_count : zMt := (yX6_count, cX6_count, 2, (some .int), false, 0, 0, 0, 1)
abbrev zX6_keep : zMt := (yX6_keep, cX6_keep, 4, (some .int), false, 0, 0, 0, 3)
abbrev zX6_make : zMt := (yX6_make, cX6_make, 4, (some .int), false, 0, 0, 0, 3)
abbrev zX6_element : zMt := (yX6_element, cX6_element, 4, (some .long), false, 0, 0, 0, 2)
abbrev zX6_copy : zMt := (yX6_copy, cX6_copy, 8, (some .int), false, 0, 0, 0, 5)
abbrev zX6_weight : zMt := (yX6_weight, cX6_weight, 3, (some .int), false, 0, 0, 0, 1)
abbrev zX6_toss : zMt := (yX6_toss, cX6_toss, 3, (some .int), false, 0, 0, 0, 1)
abbrev zX6_isLetter : zMt := (yX6_isLetter, cX6_isLetter, 1, (some .boolean), false, 0, 0, 1, 1)
abbrev zX6_isStyle : zMt := (yX6_isStyle, cX6_isStyle, 1, (some .boolean), false, 0, 0, 1, 1)
abbrev zX6_isStyleOrFree : zMt := (yX6_isStyleOrFree, cX6_isStyleOrFree, 1, (some .boolean), false, 0, 0, 1, 1)
abbrev zX6_isShelf : zMt := (yX6_isShelf, cX6_isShelf, 1, (some .boolean), false, 0, 0, 1, 1)
abbrev zX6_orMissing : zMt := (yX6_orMissing, cX6_orMissing, 1, (some .int), false, 0, 0, 1, 1)
abbrev zX6_digitOf : zMt := (yX6_digitOf, cX6_digitOf, 2, (some .int), false, 0, 0, 1, 2)
abbrev zX6_hearSpeech : zMt := (yX6_hearSpeech, cX6_hearSpeech, 2, (some .int), false, 0, 0, 0, 0)
abbrev zX6_tallyIn : zMt := (yX6_tallyIn, cX6_tallyIn, 4, (some .long), false, 0, 0, 0, 1)
abbrev zX6_keepNode : zMt := (yX6_keepNode, cX6_keepNode, 4, (some .int), false, 0, 0, 0, 3)
abbrev zX6_nodeRefusal : zMt := (yX6_nodeRefusal, cX6_nodeRefusal, 2, (some .int), false, 0, 0, 0, 1)
abbrev zX7_init : zMt := (yX7_init, cX7_init, 2, none, true, 100, 40000, 2, 0)
abbrev zX7_in : zMt := (yX7_in, cX7_in, 6, (some .boolean), false, 0, 0, 1, 3)
abbrev zX7_isNode : zMt := (yX7_isNode, cX7_isNode, 2, (some .boolean), false, 0, 0, 0, 1)
abbrev zX7_isTwo : zMt := (yX7_isTwo, cX7_isTwo, 1, (some .boolean), false, 0, 0, 1, 1)
abbrev zX7_mayKeep : zMt := (yX7_mayKeep, cX7_mayKeep, 1, (some .boolean), false, 0, 0, 1, 1)
abbrev zX7_isStyle : zMt := (yX7_isStyle, cX7_isStyle, 1, (some .boolean), false, 0, 0, 1, 1)
abbrev zX7_sets : zMt := (yX7_sets, cX7_sets, 8, none, false, 0, 0, 0, 5)
abbrev zX7_leaf : zMt := (yX7_leaf, cX7_leaf, 3, (some .int), false, 0, 0, 0, 2)
abbrev zX7_node : zMt := (yX7_node, cX7_node, 5, (some .int), false, 0, 0, 0, 3)
abbrev zX7_undo : zMt := (yX7_undo, cX7_undo, 1, (some .int), false, 0, 0, 0, 0)
abbrev zX7_means : zMt := (yX7_means, cX7_means, 4, (some .int), false, 0, 0, 0, 2)
abbrev zX7_isRight : zMt := (yX7_isRight, cX7_isRight, 3, (some .boolean), false, 0, 0, 0, 1)
abbrev zX7_look : zMt := (yX7_look, cX7_look, 3, (some .int), false, 0, 0, 0, 2)
abbrev zX7_areAlike : zMt := (yX7_areAlike, cX7_areAlike, 3, (some .boolean), false, 0, 0, 0, 2)
abbrev zX7_alike : zMt := (yX7_alike, cX7_alike, 3, (some .int), false, 0, 0, 0, 2)
abbrev zX7_has : zMt := (yX7_has, cX7_has, 3, (some .int), false, 0, 0, 0, 2)
abbrev zX7_times : zMt := (yX7_times, cX7_times, 3, (some .int), false, 0, 0, 0, 2)
abbrev zX7_keeps : zMt := (yX7_keeps, cX7_keeps, 5, (some .int), false, 0, 0, 0, 3)
abbrev zX7_digits : zMt := (yX7_digits, cX7_digits, 1, (some .int), false, 0, 0, 1, 1)
abbrev zX7_own : zMt := (yX7_own, cX7_own, 2, (some .int), false, 0, 0, 0, 1)
abbrev zX7_length : zMt := (yX7_length, cX7_length, 3, (some .int), false, 0, 0, 0, 2)
abbrev zX7_says : zMt := (yX7_says, cX7_says, 2, none, false, 0, 0, 0, 1)
abbrev zX7_keepsIt : zMt := (yX7_keepsIt, cX7_keepsIt, 3, (some .boolean), false, 0, 0, 0, 2)
abbrev zX7_say : zMt := (yX7_say, cX7_say, 6, none, false, 0, 0, 0, 2)
abbrev zX7_sayAll : zMt := (yX7_sayAll, cX7_sayAll, 3, none, false, 0, 0, 0, 2)
abbrev zX7_words : zMt := (yX7_words, cX7_words, 4, (some .int), false, 0, 0, 0, 2)
abbrev zX7_word : zMt := (yX7_word, cX7_word, 5, (some .int), false, 0, 0, 0, 3)
abbrev zX7_sound : zMt := (yX7_sound, cX7_sound, 8, (some .int), false, 0, 0, 0, 3)
abbrev zX7_adds : zMt := (yX7_adds, cX7_adds, 5, none, false, 0, 0, 0, 4)
abbrev zX7_grows : zMt := (yX7_grows, cX7_grows, 6, none, false, 0, 0, 0, 1)
abbrev zX7_isSame : zMt := (yX7_isSame, cX7_isSame, 5, (some .boolean), false, 0, 0, 0, 2)
abbrev zX7_clear : zMt := (yX7_clear, cX7_clear, 5, (some .int), false, 0, 0, 0, 2)
abbrev zX7_hear : zMt := (yX7_hear, cX7_hear, 4, (some .int), false, 0, 0, 0, 2)
abbrev zX7_listen : zMt := (yX7_listen, cX7_listen, 4, (some .int), false, 0, 0, 0, 2)
abbrev zX7_hears : zMt := (yX7_hears, cX7_hears, 2, none, false, 0, 0, 0, 0)
abbrev zX7_hush : zMt := (yX7_hush, cX7_hush, 2, (some .int), false, 0, 0, 0, 0)
abbrev zX7_ear : zMt := (yX7_ear, cX7_ear, 2, (some .int), false, 0, 0, 0, 1)
abbrev zX7_times_ : zMt := (yX7_times_, cX7_times_, 4, (some .long), false, 0, 0, 1, 2)
abbrev zX7_plus : zMt := (yX7_plus, cX7_plus, 4, (some .long), false, 0, 0, 1, 2)
abbrev zX7_isLet : zMt := (yX7_isLet, cX7_isLet, 3, (some .boolean), false, 0, 0, 0, 2)
abbrev zX7_isNumber : zMt := (yX7_isNumber, cX7_isNumber, 5, (some .boolean), false, 0, 0, 0, 2)
abbrev zX7_within : zMt := (yX7_within, cX7_within, 7, (some .long), false, 0, 0, 0, 3)
abbrev zX7_reckons : zMt := (yX7_reckons, cX7_reckons, 12, none, false, 0, 0, 0, 1)
abbrev zX7_counted : zMt := (yX7_counted, cX7_counted, 2, (some .long), false, 0, 0, 0, 1)
abbrev zX7_readings : zMt := (yX7_readings, cX7_readings, 2, (some .long), false, 0, 0, 0, 1)
abbrev zX7_makes : zMt := (yX7_makes, cX7_makes, 5, (some .int), false, 0, 0, 0, 4)
abbrev zX7_takes : zMt := (yX7_takes, cX7_takes, 12, (some .int), false, 0, 0, 0, 3)
abbrev zX7_takesTwo : zMt := (yX7_takesTwo, cX7_takesTwo, 12, (some .int), false, 0, 0, 0, 4)
abbrev zX7_write : zMt := (yX7_write, cX7_write, 5, (some .int), false, 0, 0, 0, 2)
abbrev zX7_copies : zMt := (yX7_copies, cX7_copies, 4, (some .int), false, 0, 0, 0, 1)
abbrev zX7_rank : zMt := (yX7_rank, cX7_rank, 8, (some .long), false, 0, 0, 0, 3)
abbrev zX7_inner : zMt := (yX7_inner, cX7_inner, 6, (some .long), false, 0, 0, 0, 3)
abbrev zX7_innerTwo : zMt := (yX7_innerTwo, cX7_innerTwo, 13, (some .long), false, 0, 0, 0, 3)
abbrev zX7_place : zMt := (yX7_place, cX7_place, 5, (some .long), false, 0, 0, 0, 2)
abbrev zX7_doubt : zMt := (yX7_doubt, cX7_doubt, 11, (some .int), false, 0, 0, 0, 3)
abbrev zX7_keepable : zMt := (yX7_keepable, cX7_keepable, 2, (some .int), false, 0, 0, 0, 1)
abbrev zX7_bits : zMt := (yX7_bits, cX7_bits, 3, (some .int), false, 0, 0, 1, 1)
abbrev zX7_fewest : zMt := (yX7_fewest, cX7_fewest, 6, (some .int), false, 0, 0, 0, 1)
abbrev zX7_isOnly : zMt := (yX7_isOnly, cX7_isOnly, 4, (some .boolean), false, 0, 0, 0, 3)
abbrev zX7_walk : zMt := (yX7_walk, cX7_walk, 2, (some .int), false, 0, 0, 0, 1)
abbrev zX7_down : zMt := (yX7_down, cX7_down, 3, (some .boolean), false, 0, 0, 0, 1)
abbrev zX7_go : zMt := (yX7_go, cX7_go, 3, (some .int), false, 0, 0, 0, 1)
abbrev zX7_where : zMt := (yX7_where, cX7_where, 4, (some .int), false, 0, 0, 0, 1)
abbrev zX7_lead : zMt := (yX7_lead, cX7_lead, 6, (some .int), false, 0, 0, 0, 1)
abbrev zX7_glanced : zMt := (yX7_glanced, cX7_glanced, 4, (some .int), false, 0, 0, 0, 3)
abbrev zX7_glance : zMt := (yX7_glance, cX7_glance, 4, (some .int), false, 0, 0, 0, 2)
abbrev zX7_inside : zMt := (yX7_inside, cX7_inside, 4, (some .int), false, 0, 0, 0, 2)
abbrev zX7_difference : zMt := (yX7_difference, cX7_difference, 5, (some .int), false, 0, 0, 0, 2)
abbrev zX7_wholes : zMt := (yX7_wholes, cX7_wholes, 3, (some .int), false, 0, 0, 0, 2)
abbrev zX7_changed : zMt := (yX7_changed, cX7_changed, 3, (some .int), false, 0, 0, 0, 2)
abbrev zX7_exchanged : zMt := (yX7_exchanged, cX7_exchanged, 3, (some .int), false, 0, 0, 0, 2)
abbrev zX7_functions : zMt := (yX7_functions, cX7_functions, 3, (some .int), false, 0, 0, 0, 0)
abbrev zX7_count : zMt := (yX7_count, cX7_count, 2, (some .int), false, 0, 0, 0, 1)
abbrev zX7_isShelf : zMt := (yX7_isShelf, cX7_isShelf, 1, (some .boolean), false, 0, 0, 1, 1)
abbrev zX7_kinds : zMt := (yX7_kinds, cX7_kinds, 3, none, false, 0, 0, 0, 2)
abbrev zX7_keep : zMt := (yX7_keep, cX7_keep, 6, (some .int), false, 0, 0, 0, 3)
abbrev zX7_make : zMt := (yX7_make, cX7_make, 5, (some .int), false, 0, 0, 0, 3)
abbrev zX7_element : zMt := (yX7_element, cX7_element, 3, (some .long), false, 0, 0, 0, 2)
abbrev zX7_copy : zMt := (yX7_copy, cX7_copy, 7, (some .int), false, 0, 0, 0, 5)
abbrev zX7_held : zMt := (yX7_held, cX7_held, 2, (some .int), false, 0, 0, 0, 1)
abbrev zX7_weight : zMt := (yX7_weight, cX7_weight, 4, (some .int), false, 0, 0, 0, 1)
abbrev zX7_toss : zMt := (yX7_toss, cX7_toss, 3, (some .int), false, 0, 0, 0, 1)
abbrev zJ6_bitCount_0f7a4 : zMt := (yJ6_bitCount_0f7a4, cJ6_bitCount_0f7a4, 1, (some .int), false, 0, 0, 1, 1)
abbrev zJ9_max_7cf53 : zMt := (yJ9_max_7cf53, cJ9_max_7cf53, 2, (some .int), false, 0, 0, 1, 2)
abbrev zJ9_min_7cf53 : zMt := (yJ9_min_7cf53, cJ9_min_7cf53, 2, (some .int), false, 0, 0, 1, 2)
abbrev zJ9_min_f86c9 : zMt := (yJ9_min_f86c9, cJ9_min_f86c9, 4, (some .long), false, 0, 0, 1, 2)
def zms : List zMt := [zX0_init, zX0_add, zX0_tally, zX0_waysOf, zX0_isBracketed, zX0_bareWays, zX0_kindByEnds, zX0_partFrom, zX0_partTo, zX0_numberIn, zX0_build, zX0_buildSpan, zX0_buildBare, zX0_buildPair, zX0_placeOf, zX0_placeIn, zX0_placeBare, zX0_placePair, zX1_isPair, zX1_isPrefix, zX1_hasBit, zX1_withBit, zX1_isDoubtful, zX2_init, zX2_has, zX2_isFull, zX2_sizeOf, zX2_partOf, zX2_put, zX2_addPart, zX2_ownWords, zX2_firstAlike, zX2_shapeOf, zX2_isSameTop, zX2_isAlike, zX2_isRight, zX2_timesWithin, zX2_tallyOf, zX2_firstUnlike, zX2_differenceOf, zX2_exchangesOf, zX2_layKinds, zX2_difference, zX2_exchanges, zX2_layKindsFrom, zX3_init, zX3_drop, zX3_holdNode, zX3_holdNoughts, zX3_holdRow, zX3_hasRow, zX3_hasSpan, zX3_weighNode, zX4_init, zX4_isTooLong, zX4_sayInStyle, zX4_saySparingly, zX4_isSameAs, zX4_tell, zX4_tellBare, zX4_isPartKept, zX4_addDigits, zX4_add, zX5_init, zX5_isBegun, zX5_top, zX5_here, zX5_beginAt, zX5_stepDown, zX5_stepUp, zX5_stepBeside, zX5_asNumber, zX5_follow, zX5_leadsSomewhere, zX6_init, zX6_leaf, zX6_node, zX6_undo, zX6_means, zX6_look, zX6_alike, zX6_times, zX6_keeps, zX6_words, zX6_word, zX6_sound, zX6_clear, zX6_hear, zX6_listen, zX6_hush, zX6_ear, zX6_readings, zX6_write, zX6_place, zX6_doubt, zX6_fewest, zX6_walk, zX6_go, zX6_where, zX6_lead, zX6_glance, zX6_changed, zX6_exchanged, zX6_count, zX6_keep, zX6_make, zX6_element, zX6_copy, zX6_weight, zX6_toss, zX6_isLetter, zX6_isStyle, zX6_isStyleOrFree, zX6_isShelf, zX6_orMissing, zX6_digitOf, zX6_hearSpeech, zX6_tallyIn, zX6_keepNode, zX6_nodeRefusal, zX7_init, zX7_in, zX7_isNode, zX7_isTwo, zX7_mayKeep, zX7_isStyle, zX7_sets, zX7_leaf, zX7_node, zX7_undo, zX7_means, zX7_isRight, zX7_look, zX7_areAlike, zX7_alike, zX7_has, zX7_times, zX7_keeps, zX7_digits, zX7_own, zX7_length, zX7_says, zX7_keepsIt, zX7_say, zX7_sayAll, zX7_words, zX7_word, zX7_sound, zX7_adds, zX7_grows, zX7_isSame, zX7_clear, zX7_hear, zX7_listen, zX7_hears, zX7_hush, zX7_ear, zX7_times_, zX7_plus, zX7_isLet, zX7_isNumber, zX7_within, zX7_reckons, zX7_counted, zX7_readings, zX7_makes, zX7_takes, zX7_takesTwo, zX7_write, zX7_copies, zX7_rank, zX7_inner, zX7_innerTwo, zX7_place, zX7_doubt, zX7_keepable, zX7_bits, zX7_fewest, zX7_isOnly, zX7_walk, zX7_down, zX7_go, zX7_where, zX7_lead, zX7_glanced, zX7_glance, zX7_inside, zX7_difference, zX7_wholes, zX7_changed, zX7_exchanged, zX7_functions, zX7_count, zX7_isShelf, zX7_kinds, zX7_keep, zX7_make, zX7_element, zX7_copy, zX7_held, zX7_weight, zX7_toss, zJ6_bitCount_0f7a4, zJ9_max_7cf53, zJ9_min_7cf53, zJ9_min_f86c9]
set_option maxRecDepth 100000 in
theorem qX0_init : zMok zX0_init := ⟨zmemT 114 rfl rfl, ⟨by decide +kernel, by decide +kernel, by decide +kernel⟩, zmemT 4 rfl rfl, (fun h => by cases h), (fun h => by cases h), fun _ => ⟨zmemT 113 rfl rfl, rfl, rfl⟩⟩
set_option maxRecDepth 100000 in
theorem qX0_add : zMok zX0_add := ⟨zmemT 402 rfl rfl, ⟨by decide +kernel, by decide +kernel, by decide +kernel⟩, zmemT 4 rfl rfl, fun _ => ⟨zmemT 400 rfl rfl, zmemT 401 rfl rfl⟩, (fun h => by cases h), (fun h => by cases h)⟩
set_option maxRecDepth 100000 in
theorem qX0_tally : zMok zX0_tally := ⟨zmemT 433 rfl rfl, ⟨by decide +kernel, by decide +kernel, by decide +kernel⟩, zmemT 4 rfl rfl, fun _ => ⟨zmemT 431 rfl rfl, zmemT 432 rfl rfl⟩, (fun h => by cases h), (fun h => by cases h)⟩
set_option maxRecDepth 100000 in
theorem qX0_waysOf : zMok zX0_waysOf := ⟨zmemT 437 rfl rfl, ⟨by decide +kernel, by decide +kernel, by decide +kernel⟩, zmemT 4 rfl rfl, fun _ => ⟨zmemT 436 rfl rfl, zmemS 11 rfl rfl⟩, (fun h => by cases h), (fun h => by cases h)⟩
set_option maxRecDepth 100000 in
theorem qX0_isBracketed : zMok zX0_isBracketed := ⟨zmemT 461 rfl rfl, ⟨by decide +kernel, by decide +kernel, by decide +kernel⟩, zmemT 4 rfl rfl, fun _ => ⟨zmemT 460 rfl rfl, zmemS 15 rfl rfl⟩, (fun h => by cases h), (fun h => by cases h)⟩
set_option maxRecDepth 100000 in
theorem qX0_bareWays : zMok zX0_bareWays := ⟨zmemT 441 rfl rfl, ⟨by decide +kernel, by decide +kernel, by decide +kernel⟩, zmemT 4 rfl rfl, fun _ => ⟨zmemT 440 rfl rfl, zmemS 12 rfl rfl⟩, (fun h => by cases h), (fun h => by cases h)⟩
set_option maxRecDepth 100000 in
theorem qX0_kindByEnds : zMok zX0_kindByEnds := ⟨zmemT 447 rfl rfl, ⟨by decide +kernel, by decide +kernel, by decide +kernel⟩, zmemT 4 rfl rfl, fun _ => ⟨zmemT 446 rfl rfl, zmemS 13 rfl rfl⟩, (fun h => by cases h), (fun h => by cases h)⟩
set_option maxRecDepth 100000 in
theorem qX0_partFrom : zMok zX0_partFrom := ⟨zmemT 454 rfl rfl, ⟨by decide +kernel, by decide +kernel, by decide +kernel⟩, zmemT 4 rfl rfl, (fun h => by cases h), fun _ => zmemT 453 rfl rfl, (fun h => by cases h)⟩
set_option maxRecDepth 100000 in
theorem qX0_partTo : zMok zX0_partTo := ⟨zmemT 457 rfl rfl, ⟨by decide +kernel, by decide +kernel, by decide +kernel⟩, zmemT 4 rfl rfl, (fun h => by cases h), fun _ => zmemT 456 rfl rfl, (fun h => by cases h)⟩
set_option maxRecDepth 100000 in
theorem qX0_numberIn : zMok zX0_numberIn := ⟨zmemT 451 rfl rfl, ⟨by decide +kernel, by decide +kernel, by decide +kernel⟩, zmemT 4 rfl rfl, fun _ => ⟨zmemT 450 rfl rfl, zmemS 14 rfl rfl⟩, (fun h => by cases h), (fun h => by cases h)⟩
set_option maxRecDepth 100000 in
theorem qX0_build : zMok zX0_build := ⟨zmemT 469 rfl rfl, ⟨by decide +kernel, by decide +kernel, by decide +kernel⟩, zmemT 4 rfl rfl, fun _ => ⟨zmemT 467 rfl rfl, zmemT 468 rfl rfl⟩, (fun h => by cases h), (fun h => by cases h)⟩
set_option maxRecDepth 100000 in
theorem qX0_buildSpan : zMok zX0_buildSpan := ⟨zmemT 473 rfl rfl, ⟨by decide +kernel, by decide +kernel, by decide +kernel⟩, zmemT 4 rfl rfl, fun _ => ⟨zmemT 472 rfl rfl, zmemS 16 rfl rfl⟩, (fun h => by cases h), (fun h => by cases h)⟩
set_option maxRecDepth 100000 in
theorem qX0_buildBare : zMok zX0_buildBare := ⟨zmemT 477 rfl rfl, ⟨by decide +kernel, by decide +kernel, by decide +kernel⟩, zmemT 4 rfl rfl, fun _ => ⟨zmemT 476 rfl rfl, zmemS 17 rfl rfl⟩, (fun h => by cases h), (fun h => by cases h)⟩
set_option maxRecDepth 100000 in
theorem qX0_buildPair : zMok zX0_buildPair := ⟨zmemT 481 rfl rfl, ⟨by decide +kernel, by decide +kernel, by decide +kernel⟩, zmemT 4 rfl rfl, fun _ => ⟨zmemT 480 rfl rfl, zmemS 18 rfl rfl⟩, (fun h => by cases h), (fun h => by cases h)⟩
set_option maxRecDepth 100000 in
theorem qX0_placeOf : zMok zX0_placeOf := ⟨zmemT 492 rfl rfl, ⟨by decide +kernel, by decide +kernel, by decide +kernel⟩, zmemT 4 rfl rfl, fun _ => ⟨zmemT 490 rfl rfl, zmemT 491 rfl rfl⟩, (fun h => by cases h), (fun h => by cases h)⟩
set_option maxRecDepth 100000 in
theorem qX0_placeIn : zMok zX0_placeIn := ⟨zmemT 496 rfl rfl, ⟨by decide +kernel, by decide +kernel, by decide +kernel⟩, zmemT 4 rfl rfl, fun _ => ⟨zmemT 495 rfl rfl, zmemS 19 rfl rfl⟩, (fun h => by cases h), (fun h => by cases h)⟩
set_option maxRecDepth 100000 in
theorem qX0_placeBare : zMok zX0_placeBare := ⟨zmemT 502 rfl rfl, ⟨by decide +kernel, by decide +kernel, by decide +kernel⟩, zmemT 4 rfl rfl, fun _ => ⟨zmemT 501 rfl rfl, zmemS 20 rfl rfl⟩, (fun h => by cases h), (fun h => by cases h)⟩
set_option maxRecDepth 100000 in
theorem qX0_placePair : zMok zX0_placePair := ⟨zmemT 506 rfl rfl, ⟨by decide +kernel, by decide +kernel, by decide +kernel⟩, zmemT 4 rfl rfl, fun _ => ⟨zmemT 505 rfl rfl, zmemS 21 rfl rfl⟩, (fun h => by cases h), (fun h => by cases h)⟩
set_option maxRecDepth 100000 in
theorem qX1_isPair : zMok zX1_isPair := ⟨zmemT 266 rfl rfl, ⟨by decide +kernel, by decide +kernel, by decide +kernel⟩, zmemT 8 rfl rfl, (fun h => by cases h), fun _ => zmemT 265 rfl rfl, (fun h => by cases h)⟩
set_option maxRecDepth 100000 in
theorem qX1_isPrefix : zMok zX1_isPrefix := ⟨zmemT 365 rfl rfl, ⟨by decide +kernel, by decide +kernel, by decide +kernel⟩, zmemT 8 rfl rfl, (fun h => by cases h), fun _ => zmemT 364 rfl rfl, (fun h => by cases h)⟩
set_option maxRecDepth 100000 in
theorem qX1_hasBit : zMok zX1_hasBit := ⟨zmemT 235 rfl rfl, ⟨by decide +kernel, by decide +kernel, by decide +kernel⟩, zmemT 8 rfl rfl, (fun h => by cases h), fun _ => zmemT 234 rfl rfl, (fun h => by cases h)⟩
set_option maxRecDepth 100000 in
theorem qX1_withBit : zMok zX1_withBit := ⟨zmemT 292 rfl rfl, ⟨by decide +kernel, by decide +kernel, by decide +kernel⟩, zmemT 8 rfl rfl, (fun h => by cases h), fun _ => zmemT 291 rfl rfl, (fun h => by cases h)⟩
set_option maxRecDepth 100000 in
theorem qX1_isDoubtful : zMok zX1_isDoubtful := ⟨zmemT 361 rfl rfl, ⟨by decide +kernel, by decide +kernel, by decide +kernel⟩, zmemT 8 rfl rfl, (fun h => by cases h), fun _ => zmemT 360 rfl rfl, (fun h => by cases h)⟩
set_option maxRecDepth 100000 in
theorem qX2_init : zMok zX2_init := ⟨zmemT 29 rfl rfl, ⟨by decide +kernel, by decide +kernel, by decide +kernel⟩, zmemT 2 rfl rfl, (fun h => by cases h), (fun h => by cases h), fun _ => ⟨zmemT 28 rfl rfl, rfl, rfl⟩⟩
set_option maxRecDepth 100000 in
theorem qX2_has : zMok zX2_has := ⟨zmemT 243 rfl rfl, ⟨by decide +kernel, by decide +kernel, by decide +kernel⟩, zmemT 2 rfl rfl, fun _ => ⟨zmemT 241 rfl rfl, zmemT 242 rfl rfl⟩, (fun h => by cases h), (fun h => by cases h)⟩
set_option maxRecDepth 100000 in
theorem qX2_isFull : zMok zX2_isFull := ⟨zmemT 224 rfl rfl, ⟨by decide +kernel, by decide +kernel, by decide +kernel⟩, zmemT 2 rfl rfl, fun _ => ⟨zmemT 222 rfl rfl, zmemT 223 rfl rfl⟩, (fun h => by cases h), (fun h => by cases h)⟩
set_option maxRecDepth 100000 in
theorem qX2_sizeOf : zMok zX2_sizeOf := ⟨zmemT 273 rfl rfl, ⟨by decide +kernel, by decide +kernel, by decide +kernel⟩, zmemT 2 rfl rfl, fun _ => ⟨zmemT 271 rfl rfl, zmemT 272 rfl rfl⟩, (fun h => by cases h), (fun h => by cases h)⟩
set_option maxRecDepth 100000 in
theorem qX2_partOf : zMok zX2_partOf := ⟨zmemT 518 rfl rfl, ⟨by decide +kernel, by decide +kernel, by decide +kernel⟩, zmemT 2 rfl rfl, fun _ => ⟨zmemT 516 rfl rfl, zmemT 517 rfl rfl⟩, (fun h => by cases h), (fun h => by cases h)⟩
set_option maxRecDepth 100000 in
theorem qX2_put : zMok zX2_put := ⟨zmemT 228 rfl rfl, ⟨by decide +kernel, by decide +kernel, by decide +kernel⟩, zmemT 2 rfl rfl, fun _ => ⟨zmemT 226 rfl rfl, zmemT 227 rfl rfl⟩, (fun h => by cases h), (fun h => by cases h)⟩
set_option maxRecDepth 100000 in
theorem qX2_addPart : zMok zX2_addPart := ⟨zmemT 239 rfl rfl, ⟨by decide +kernel, by decide +kernel, by decide +kernel⟩, zmemT 2 rfl rfl, fun _ => ⟨zmemT 238 rfl rfl, zmemS 0 rfl rfl⟩, (fun h => by cases h), (fun h => by cases h)⟩
set_option maxRecDepth 100000 in
theorem qX2_ownWords : zMok zX2_ownWords := ⟨zmemT 232 rfl rfl, ⟨by decide +kernel, by decide +kernel, by decide +kernel⟩, zmemT 2 rfl rfl, (fun h => by cases h), fun _ => zmemT 231 rfl rfl, (fun h => by cases h)⟩
set_option maxRecDepth 100000 in
theorem qX2_firstAlike : zMok zX2_firstAlike := ⟨zmemT 250 rfl rfl, ⟨by decide +kernel, by decide +kernel, by decide +kernel⟩, zmemT 2 rfl rfl, fun _ => ⟨zmemT 249 rfl rfl, zmemS 1 rfl rfl⟩, (fun h => by cases h), (fun h => by cases h)⟩
set_option maxRecDepth 100000 in
theorem qX2_shapeOf : zMok zX2_shapeOf := ⟨zmemT 258 rfl rfl, ⟨by decide +kernel, by decide +kernel, by decide +kernel⟩, zmemT 2 rfl rfl, fun _ => ⟨zmemT 257 rfl rfl, zmemS 2 rfl rfl⟩, (fun h => by cases h), (fun h => by cases h)⟩
set_option maxRecDepth 100000 in
theorem qX2_isSameTop : zMok zX2_isSameTop := ⟨zmemT 254 rfl rfl, ⟨by decide +kernel, by decide +kernel, by decide +kernel⟩, zmemT 2 rfl rfl, fun _ => ⟨zmemT 252 rfl rfl, zmemT 253 rfl rfl⟩, (fun h => by cases h), (fun h => by cases h)⟩
set_option maxRecDepth 100000 in
theorem qX2_isAlike : zMok zX2_isAlike := ⟨zmemT 311 rfl rfl, ⟨by decide +kernel, by decide +kernel, by decide +kernel⟩, zmemT 2 rfl rfl, fun _ => ⟨zmemT 309 rfl rfl, zmemT 310 rfl rfl⟩, (fun h => by cases h), (fun h => by cases h)⟩
set_option maxRecDepth 100000 in
theorem qX2_isRight : zMok zX2_isRight := ⟨zmemT 303 rfl rfl, ⟨by decide +kernel, by decide +kernel, by decide +kernel⟩, zmemT 2 rfl rfl, fun _ => ⟨zmemT 301 rfl rfl, zmemT 302 rfl rfl⟩, (fun h => by cases h), (fun h => by cases h)⟩
set_option maxRecDepth 100000 in
theorem qX2_timesWithin : zMok zX2_timesWithin := ⟨zmemT 319 rfl rfl, ⟨by decide +kernel, by decide +kernel, by decide +kernel⟩, zmemT 2 rfl rfl, fun _ => ⟨zmemT 317 rfl rfl, zmemT 318 rfl rfl⟩, (fun h => by cases h), (fun h => by cases h)⟩
set_option maxRecDepth 100000 in
theorem qX2_tallyOf : zMok zX2_tallyOf := ⟨zmemT 324 rfl rfl, ⟨by decide +kernel, by decide +kernel, by decide +kernel⟩, zmemT 2 rfl rfl, fun _ => ⟨zmemT 323 rfl rfl, zmemS 3 rfl rfl⟩, (fun h => by cases h), (fun h => by cases h)⟩
set_option maxRecDepth 100000 in
theorem qX2_firstUnlike : zMok zX2_firstUnlike := ⟨zmemT 514 rfl rfl, ⟨by decide +kernel, by decide +kernel, by decide +kernel⟩, zmemT 2 rfl rfl, fun _ => ⟨zmemT 512 rfl rfl, zmemT 513 rfl rfl⟩, (fun h => by cases h), (fun h => by cases h)⟩
set_option maxRecDepth 100000 in
theorem qX2_differenceOf : zMok zX2_differenceOf := ⟨zmemT 581 rfl rfl, ⟨by decide +kernel, by decide +kernel, by decide +kernel⟩, zmemT 2 rfl rfl, fun _ => ⟨zmemT 579 rfl rfl, zmemT 580 rfl rfl⟩, (fun h => by cases h), (fun h => by cases h)⟩
set_option maxRecDepth 100000 in
theorem qX2_exchangesOf : zMok zX2_exchangesOf := ⟨zmemT 593 rfl rfl, ⟨by decide +kernel, by decide +kernel, by decide +kernel⟩, zmemT 2 rfl rfl, fun _ => ⟨zmemT 591 rfl rfl, zmemT 592 rfl rfl⟩, (fun h => by cases h), (fun h => by cases h)⟩
set_option maxRecDepth 100000 in
theorem qX2_layKinds : zMok zX2_layKinds := ⟨zmemT 638 rfl rfl, ⟨by decide +kernel, by decide +kernel, by decide +kernel⟩, zmemT 2 rfl rfl, fun _ => ⟨zmemT 636 rfl rfl, zmemT 637 rfl rfl⟩, (fun h => by cases h), (fun h => by cases h)⟩
set_option maxRecDepth 100000 in
theorem qX2_difference : zMok zX2_difference := ⟨zmemT 585 rfl rfl, ⟨by decide +kernel, by decide +kernel, by decide +kernel⟩, zmemT 2 rfl rfl, fun _ => ⟨zmemT 584 rfl rfl, zmemS 23 rfl rfl⟩, (fun h => by cases h), (fun h => by cases h)⟩
set_option maxRecDepth 100000 in
theorem qX2_exchanges : zMok zX2_exchanges := ⟨zmemT 597 rfl rfl, ⟨by decide +kernel, by decide +kernel, by decide +kernel⟩, zmemT 2 rfl rfl, fun _ => ⟨zmemT 596 rfl rfl, zmemS 24 rfl rfl⟩, (fun h => by cases h), (fun h => by cases h)⟩
set_option maxRecDepth 100000 in
theorem qX2_layKindsFrom : zMok zX2_layKindsFrom := ⟨zmemT 642 rfl rfl, ⟨by decide +kernel, by decide +kernel, by decide +kernel⟩, zmemT 2 rfl rfl, fun _ => ⟨zmemT 641 rfl rfl, zmemS 26 rfl rfl⟩, (fun h => by cases h), (fun h => by cases h)⟩
set_option maxRecDepth 100000 in
theorem qX3_init : zMok zX3_init := ⟨zmemT 165 rfl rfl, ⟨by decide +kernel, by decide +kernel, by decide +kernel⟩, zmemT 6 rfl rfl, (fun h => by cases h), (fun h => by cases h), fun _ => ⟨zmemT 164 rfl rfl, rfl, rfl⟩⟩
set_option maxRecDepth 100000 in
theorem qX3_drop : zMok zX3_drop := ⟨zmemT 618 rfl rfl, ⟨by decide +kernel, by decide +kernel, by decide +kernel⟩, zmemT 6 rfl rfl, fun _ => ⟨zmemT 616 rfl rfl, zmemT 617 rfl rfl⟩, (fun h => by cases h), (fun h => by cases h)⟩
set_option maxRecDepth 100000 in
theorem qX3_holdNode : zMok zX3_holdNode := ⟨zmemT 630 rfl rfl, ⟨by decide +kernel, by decide +kernel, by decide +kernel⟩, zmemT 6 rfl rfl, fun _ => ⟨zmemT 628 rfl rfl, zmemT 629 rfl rfl⟩, (fun h => by cases h), (fun h => by cases h)⟩
set_option maxRecDepth 100000 in
theorem qX3_holdNoughts : zMok zX3_holdNoughts := ⟨zmemT 634 rfl rfl, ⟨by decide +kernel, by decide +kernel, by decide +kernel⟩, zmemT 6 rfl rfl, fun _ => ⟨zmemT 632 rfl rfl, zmemT 633 rfl rfl⟩, (fun h => by cases h), (fun h => by cases h)⟩
set_option maxRecDepth 100000 in
theorem qX3_holdRow : zMok zX3_holdRow := ⟨zmemT 622 rfl rfl, ⟨by decide +kernel, by decide +kernel, by decide +kernel⟩, zmemT 6 rfl rfl, fun _ => ⟨zmemT 620 rfl rfl, zmemT 621 rfl rfl⟩, (fun h => by cases h), (fun h => by cases h)⟩
set_option maxRecDepth 100000 in
theorem qX3_hasRow : zMok zX3_hasRow := ⟨zmemT 654 rfl rfl, ⟨by decide +kernel, by decide +kernel, by decide +kernel⟩, zmemT 6 rfl rfl, fun _ => ⟨zmemT 652 rfl rfl, zmemT 653 rfl rfl⟩, (fun h => by cases h), (fun h => by cases h)⟩
set_option maxRecDepth 100000 in
theorem qX3_hasSpan : zMok zX3_hasSpan := ⟨zmemT 658 rfl rfl, ⟨by decide +kernel, by decide +kernel, by decide +kernel⟩, zmemT 6 rfl rfl, fun _ => ⟨zmemT 656 rfl rfl, zmemT 657 rfl rfl⟩, (fun h => by cases h), (fun h => by cases h)⟩
set_option maxRecDepth 100000 in
theorem qX3_weighNode : zMok zX3_weighNode := ⟨zmemT 673 rfl rfl, ⟨by decide +kernel, by decide +kernel, by decide +kernel⟩, zmemT 6 rfl rfl, fun _ => ⟨zmemT 671 rfl rfl, zmemT 672 rfl rfl⟩, (fun h => by cases h), (fun h => by cases h)⟩
set_option maxRecDepth 100000 in
theorem qX4_init : zMok zX4_init := ⟨zmemT 93 rfl rfl, ⟨by decide +kernel, by decide +kernel, by decide +kernel⟩, zmemT 3 rfl rfl, (fun h => by cases h), (fun h => by cases h), fun _ => ⟨zmemT 92 rfl rfl, rfl, rfl⟩⟩
set_option maxRecDepth 100000 in
theorem qX4_isTooLong : zMok zX4_isTooLong := ⟨zmemT 373 rfl rfl, ⟨by decide +kernel, by decide +kernel, by decide +kernel⟩, zmemT 3 rfl rfl, fun _ => ⟨zmemT 371 rfl rfl, zmemT 372 rfl rfl⟩, (fun h => by cases h), (fun h => by cases h)⟩
set_option maxRecDepth 100000 in
theorem qX4_sayInStyle : zMok zX4_sayInStyle := ⟨zmemT 340 rfl rfl, ⟨by decide +kernel, by decide +kernel, by decide +kernel⟩, zmemT 3 rfl rfl, fun _ => ⟨zmemT 338 rfl rfl, zmemT 339 rfl rfl⟩, (fun h => by cases h), (fun h => by cases h)⟩
set_option maxRecDepth 100000 in
theorem qX4_saySparingly : zMok zX4_saySparingly := ⟨zmemT 526 rfl rfl, ⟨by decide +kernel, by decide +kernel, by decide +kernel⟩, zmemT 3 rfl rfl, fun _ => ⟨zmemT 524 rfl rfl, zmemT 525 rfl rfl⟩, (fun h => by cases h), (fun h => by cases h)⟩
set_option maxRecDepth 100000 in
theorem qX4_isSameAs : zMok zX4_isSameAs := ⟨zmemT 385 rfl rfl, ⟨by decide +kernel, by decide +kernel, by decide +kernel⟩, zmemT 3 rfl rfl, fun _ => ⟨zmemT 383 rfl rfl, zmemT 384 rfl rfl⟩, (fun h => by cases h), (fun h => by cases h)⟩
set_option maxRecDepth 100000 in
theorem qX4_tell : zMok zX4_tell := ⟨zmemT 345 rfl rfl, ⟨by decide +kernel, by decide +kernel, by decide +kernel⟩, zmemT 3 rfl rfl, fun _ => ⟨zmemT 344 rfl rfl, zmemS 4 rfl rfl⟩, (fun h => by cases h), (fun h => by cases h)⟩
set_option maxRecDepth 100000 in
theorem qX4_tellBare : zMok zX4_tellBare := ⟨zmemT 354 rfl rfl, ⟨by decide +kernel, by decide +kernel, by decide +kernel⟩, zmemT 3 rfl rfl, fun _ => ⟨zmemT 353 rfl rfl, zmemS 6 rfl rfl⟩, (fun h => by cases h), (fun h => by cases h)⟩
set_option maxRecDepth 100000 in
theorem qX4_isPartKept : zMok zX4_isPartKept := ⟨zmemT 358 rfl rfl, ⟨by decide +kernel, by decide +kernel, by decide +kernel⟩, zmemT 3 rfl rfl, fun _ => ⟨zmemT 357 rfl rfl, zmemS 7 rfl rfl⟩, (fun h => by cases h), (fun h => by cases h)⟩
set_option maxRecDepth 100000 in
theorem qX4_addDigits : zMok zX4_addDigits := ⟨zmemT 369 rfl rfl, ⟨by decide +kernel, by decide +kernel, by decide +kernel⟩, zmemT 3 rfl rfl, fun _ => ⟨zmemT 368 rfl rfl, zmemS 8 rfl rfl⟩, (fun h => by cases h), (fun h => by cases h)⟩
set_option maxRecDepth 100000 in
theorem qX4_add : zMok zX4_add := ⟨zmemT 350 rfl rfl, ⟨by decide +kernel, by decide +kernel, by decide +kernel⟩, zmemT 3 rfl rfl, fun _ => ⟨zmemT 349 rfl rfl, zmemS 5 rfl rfl⟩, (fun h => by cases h), (fun h => by cases h)⟩
set_option maxRecDepth 100000 in
theorem qX5_init : zMok zX5_init := ⟨zmemT 144 rfl rfl, ⟨by decide +kernel, by decide +kernel, by decide +kernel⟩, zmemT 5 rfl rfl, (fun h => by cases h), (fun h => by cases h), fun _ => ⟨zmemT 143 rfl rfl, rfl, rfl⟩⟩
set_option maxRecDepth 100000 in
theorem qX5_isBegun : zMok zX5_isBegun := ⟨zmemT 281 rfl rfl, ⟨by decide +kernel, by decide +kernel, by decide +kernel⟩, zmemT 5 rfl rfl, fun _ => ⟨zmemT 279 rfl rfl, zmemT 280 rfl rfl⟩, (fun h => by cases h), (fun h => by cases h)⟩
set_option maxRecDepth 100000 in
theorem qX5_top : zMok zX5_top := ⟨zmemT 285 rfl rfl, ⟨by decide +kernel, by decide +kernel, by decide +kernel⟩, zmemT 5 rfl rfl, fun _ => ⟨zmemT 283 rfl rfl, zmemT 284 rfl rfl⟩, (fun h => by cases h), (fun h => by cases h)⟩
set_option maxRecDepth 100000 in
theorem qX5_here : zMok zX5_here := ⟨zmemT 555 rfl rfl, ⟨by decide +kernel, by decide +kernel, by decide +kernel⟩, zmemT 5 rfl rfl, fun _ => ⟨zmemT 553 rfl rfl, zmemT 554 rfl rfl⟩, (fun h => by cases h), (fun h => by cases h)⟩
set_option maxRecDepth 100000 in
theorem qX5_beginAt : zMok zX5_beginAt := ⟨zmemT 534 rfl rfl, ⟨by decide +kernel, by decide +kernel, by decide +kernel⟩, zmemT 5 rfl rfl, fun _ => ⟨zmemT 532 rfl rfl, zmemT 533 rfl rfl⟩, (fun h => by cases h), (fun h => by cases h)⟩
set_option maxRecDepth 100000 in
theorem qX5_stepDown : zMok zX5_stepDown := ⟨zmemT 551 rfl rfl, ⟨by decide +kernel, by decide +kernel, by decide +kernel⟩, zmemT 5 rfl rfl, fun _ => ⟨zmemT 549 rfl rfl, zmemT 550 rfl rfl⟩, (fun h => by cases h), (fun h => by cases h)⟩
set_option maxRecDepth 100000 in
theorem qX5_stepUp : zMok zX5_stepUp := ⟨zmemT 542 rfl rfl, ⟨by decide +kernel, by decide +kernel, by decide +kernel⟩, zmemT 5 rfl rfl, fun _ => ⟨zmemT 540 rfl rfl, zmemT 541 rfl rfl⟩, (fun h => by cases h), (fun h => by cases h)⟩
set_option maxRecDepth 100000 in
theorem qX5_stepBeside : zMok zX5_stepBeside := ⟨zmemT 546 rfl rfl, ⟨by decide +kernel, by decide +kernel, by decide +kernel⟩, zmemT 5 rfl rfl, fun _ => ⟨zmemT 544 rfl rfl, zmemT 545 rfl rfl⟩, (fun h => by cases h), (fun h => by cases h)⟩
set_option maxRecDepth 100000 in
theorem qX5_asNumber : zMok zX5_asNumber := ⟨zmemT 780 rfl rfl, ⟨by decide +kernel, by decide +kernel, by decide +kernel⟩, zmemT 5 rfl rfl, fun _ => ⟨zmemT 778 rfl rfl, zmemT 779 rfl rfl⟩, (fun h => by cases h), (fun h => by cases h)⟩
set_option maxRecDepth 100000 in
theorem qX5_follow : zMok zX5_follow := ⟨zmemT 564 rfl rfl, ⟨by decide +kernel, by decide +kernel, by decide +kernel⟩, zmemT 5 rfl rfl, fun _ => ⟨zmemT 562 rfl rfl, zmemT 563 rfl rfl⟩, (fun h => by cases h), (fun h => by cases h)⟩
set_option maxRecDepth 100000 in
theorem qX5_leadsSomewhere : zMok zX5_leadsSomewhere := ⟨zmemT 568 rfl rfl, ⟨by decide +kernel, by decide +kernel, by decide +kernel⟩, zmemT 5 rfl rfl, fun _ => ⟨zmemT 567 rfl rfl, zmemS 22 rfl rfl⟩, (fun h => by cases h), (fun h => by cases h)⟩
set_option maxRecDepth 100000 in
theorem qX6_init : zMok zX6_init := ⟨zmemT 21 rfl rfl, ⟨by decide +kernel, by decide +kernel, by decide +kernel⟩, zmemT 1 rfl rfl, (fun h => by cases h), (fun h => by cases h), fun _ => ⟨zmemT 20 rfl rfl, rfl, rfl⟩⟩
set_option maxRecDepth 100000 in
theorem qX6_leaf : zMok zX6_leaf := ⟨zmemT 220 rfl rfl, ⟨by decide +kernel, by decide +kernel, by decide +kernel⟩, zmemT 1 rfl rfl, fun _ => ⟨zmemT 218 rfl rfl, zmemT 219 rfl rfl⟩, (fun h => by cases h), (fun h => by cases h)⟩
set_option maxRecDepth 100000 in
theorem qX6_node : zMok zX6_node := ⟨zmemT 262 rfl rfl, ⟨by decide +kernel, by decide +kernel, by decide +kernel⟩, zmemT 1 rfl rfl, fun _ => ⟨zmemT 260 rfl rfl, zmemT 261 rfl rfl⟩, (fun h => by cases h), (fun h => by cases h)⟩
set_option maxRecDepth 100000 in
theorem qX6_undo : zMok zX6_undo := ⟨zmemT 277 rfl rfl, ⟨by decide +kernel, by decide +kernel, by decide +kernel⟩, zmemT 1 rfl rfl, fun _ => ⟨zmemT 275 rfl rfl, zmemT 276 rfl rfl⟩, (fun h => by cases h), (fun h => by cases h)⟩
set_option maxRecDepth 100000 in
theorem qX6_means : zMok zX6_means := ⟨zmemT 289 rfl rfl, ⟨by decide +kernel, by decide +kernel, by decide +kernel⟩, zmemT 1 rfl rfl, fun _ => ⟨zmemT 287 rfl rfl, zmemT 288 rfl rfl⟩, (fun h => by cases h), (fun h => by cases h)⟩
set_option maxRecDepth 100000 in
theorem qX6_look : zMok zX6_look := ⟨zmemT 296 rfl rfl, ⟨by decide +kernel, by decide +kernel, by decide +kernel⟩, zmemT 1 rfl rfl, fun _ => ⟨zmemT 294 rfl rfl, zmemT 295 rfl rfl⟩, (fun h => by cases h), (fun h => by cases h)⟩
set_option maxRecDepth 100000 in
theorem qX6_alike : zMok zX6_alike := ⟨zmemT 307 rfl rfl, ⟨by decide +kernel, by decide +kernel, by decide +kernel⟩, zmemT 1 rfl rfl, fun _ => ⟨zmemT 305 rfl rfl, zmemT 306 rfl rfl⟩, (fun h => by cases h), (fun h => by cases h)⟩
set_option maxRecDepth 100000 in
theorem qX6_times : zMok zX6_times := ⟨zmemT 315 rfl rfl, ⟨by decide +kernel, by decide +kernel, by decide +kernel⟩, zmemT 1 rfl rfl, fun _ => ⟨zmemT 313 rfl rfl, zmemT 314 rfl rfl⟩, (fun h => by cases h), (fun h => by cases h)⟩
set_option maxRecDepth 100000 in
theorem qX6_keeps : zMok zX6_keeps := ⟨zmemT 328 rfl rfl, ⟨by decide +kernel, by decide +kernel, by decide +kernel⟩, zmemT 1 rfl rfl, fun _ => ⟨zmemT 326 rfl rfl, zmemT 327 rfl rfl⟩, (fun h => by cases h), (fun h => by cases h)⟩
set_option maxRecDepth 100000 in
theorem qX6_words : zMok zX6_words := ⟨zmemT 336 rfl rfl, ⟨by decide +kernel, by decide +kernel, by decide +kernel⟩, zmemT 1 rfl rfl, fun _ => ⟨zmemT 334 rfl rfl, zmemT 335 rfl rfl⟩, (fun h => by cases h), (fun h => by cases h)⟩
set_option maxRecDepth 100000 in
theorem qX6_word : zMok zX6_word := ⟨zmemT 377 rfl rfl, ⟨by decide +kernel, by decide +kernel, by decide +kernel⟩, zmemT 1 rfl rfl, fun _ => ⟨zmemT 375 rfl rfl, zmemT 376 rfl rfl⟩, (fun h => by cases h), (fun h => by cases h)⟩
set_option maxRecDepth 100000 in
theorem qX6_sound : zMok zX6_sound := ⟨zmemT 381 rfl rfl, ⟨by decide +kernel, by decide +kernel, by decide +kernel⟩, zmemT 1 rfl rfl, fun _ => ⟨zmemT 379 rfl rfl, zmemT 380 rfl rfl⟩, (fun h => by cases h), (fun h => by cases h)⟩
set_option maxRecDepth 100000 in
theorem qX6_clear : zMok zX6_clear := ⟨zmemT 390 rfl rfl, ⟨by decide +kernel, by decide +kernel, by decide +kernel⟩, zmemT 1 rfl rfl, fun _ => ⟨zmemT 388 rfl rfl, zmemT 389 rfl rfl⟩, (fun h => by cases h), (fun h => by cases h)⟩
set_option maxRecDepth 100000 in
theorem qX6_hear : zMok zX6_hear := ⟨zmemT 395 rfl rfl, ⟨by decide +kernel, by decide +kernel, by decide +kernel⟩, zmemT 1 rfl rfl, fun _ => ⟨zmemT 393 rfl rfl, zmemT 394 rfl rfl⟩, (fun h => by cases h), (fun h => by cases h)⟩
set_option maxRecDepth 100000 in
theorem qX6_listen : zMok zX6_listen := ⟨zmemT 406 rfl rfl, ⟨by decide +kernel, by decide +kernel, by decide +kernel⟩, zmemT 1 rfl rfl, fun _ => ⟨zmemT 404 rfl rfl, zmemT 405 rfl rfl⟩, (fun h => by cases h), (fun h => by cases h)⟩
set_option maxRecDepth 100000 in
theorem qX6_hush : zMok zX6_hush := ⟨zmemT 414 rfl rfl, ⟨by decide +kernel, by decide +kernel, by decide +kernel⟩, zmemT 1 rfl rfl, fun _ => ⟨zmemT 412 rfl rfl, zmemT 413 rfl rfl⟩, (fun h => by cases h), (fun h => by cases h)⟩
set_option maxRecDepth 100000 in
theorem qX6_ear : zMok zX6_ear := ⟨zmemT 418 rfl rfl, ⟨by decide +kernel, by decide +kernel, by decide +kernel⟩, zmemT 1 rfl rfl, fun _ => ⟨zmemT 416 rfl rfl, zmemT 417 rfl rfl⟩, (fun h => by cases h), (fun h => by cases h)⟩
set_option maxRecDepth 100000 in
theorem qX6_readings : zMok zX6_readings := ⟨zmemT 685 rfl rfl, ⟨by decide +kernel, by decide +kernel, by decide +kernel⟩, zmemT 1 rfl rfl, fun _ => ⟨zmemT 683 rfl rfl, zmemT 684 rfl rfl⟩, (fun h => by cases h), (fun h => by cases h)⟩
set_option maxRecDepth 100000 in
theorem qX6_write : zMok zX6_write := ⟨zmemT 422 rfl rfl, ⟨by decide +kernel, by decide +kernel, by decide +kernel⟩, zmemT 1 rfl rfl, fun _ => ⟨zmemT 420 rfl rfl, zmemT 421 rfl rfl⟩, (fun h => by cases h), (fun h => by cases h)⟩
set_option maxRecDepth 100000 in
theorem qX6_place : zMok zX6_place := ⟨zmemT 486 rfl rfl, ⟨by decide +kernel, by decide +kernel, by decide +kernel⟩, zmemT 1 rfl rfl, fun _ => ⟨zmemT 484 rfl rfl, zmemT 485 rfl rfl⟩, (fun h => by cases h), (fun h => by cases h)⟩
set_option maxRecDepth 100000 in
theorem qX6_doubt : zMok zX6_doubt := ⟨zmemT 510 rfl rfl, ⟨by decide +kernel, by decide +kernel, by decide +kernel⟩, zmemT 1 rfl rfl, fun _ => ⟨zmemT 508 rfl rfl, zmemT 509 rfl rfl⟩, (fun h => by cases h), (fun h => by cases h)⟩
set_option maxRecDepth 100000 in
theorem qX6_fewest : zMok zX6_fewest := ⟨zmemT 522 rfl rfl, ⟨by decide +kernel, by decide +kernel, by decide +kernel⟩, zmemT 1 rfl rfl, fun _ => ⟨zmemT 520 rfl rfl, zmemT 521 rfl rfl⟩, (fun h => by cases h), (fun h => by cases h)⟩
set_option maxRecDepth 100000 in
theorem qX6_walk : zMok zX6_walk := ⟨zmemT 530 rfl rfl, ⟨by decide +kernel, by decide +kernel, by decide +kernel⟩, zmemT 1 rfl rfl, fun _ => ⟨zmemT 528 rfl rfl, zmemT 529 rfl rfl⟩, (fun h => by cases h), (fun h => by cases h)⟩
set_option maxRecDepth 100000 in
theorem qX6_go : zMok zX6_go := ⟨zmemT 538 rfl rfl, ⟨by decide +kernel, by decide +kernel, by decide +kernel⟩, zmemT 1 rfl rfl, fun _ => ⟨zmemT 536 rfl rfl, zmemT 537 rfl rfl⟩, (fun h => by cases h), (fun h => by cases h)⟩
set_option maxRecDepth 100000 in
theorem qX6_where : zMok zX6_where := ⟨zmemT 760 rfl rfl, ⟨by decide +kernel, by decide +kernel, by decide +kernel⟩, zmemT 1 rfl rfl, fun _ => ⟨zmemT 758 rfl rfl, zmemT 759 rfl rfl⟩, (fun h => by cases h), (fun h => by cases h)⟩
set_option maxRecDepth 100000 in
theorem qX6_lead : zMok zX6_lead := ⟨zmemT 560 rfl rfl, ⟨by decide +kernel, by decide +kernel, by decide +kernel⟩, zmemT 1 rfl rfl, fun _ => ⟨zmemT 558 rfl rfl, zmemT 559 rfl rfl⟩, (fun h => by cases h), (fun h => by cases h)⟩
set_option maxRecDepth 100000 in
theorem qX6_glance : zMok zX6_glance := ⟨zmemT 573 rfl rfl, ⟨by decide +kernel, by decide +kernel, by decide +kernel⟩, zmemT 1 rfl rfl, fun _ => ⟨zmemT 571 rfl rfl, zmemT 572 rfl rfl⟩, (fun h => by cases h), (fun h => by cases h)⟩
set_option maxRecDepth 100000 in
theorem qX6_changed : zMok zX6_changed := ⟨zmemT 577 rfl rfl, ⟨by decide +kernel, by decide +kernel, by decide +kernel⟩, zmemT 1 rfl rfl, fun _ => ⟨zmemT 575 rfl rfl, zmemT 576 rfl rfl⟩, (fun h => by cases h), (fun h => by cases h)⟩
set_option maxRecDepth 100000 in
theorem qX6_exchanged : zMok zX6_exchanged := ⟨zmemT 589 rfl rfl, ⟨by decide +kernel, by decide +kernel, by decide +kernel⟩, zmemT 1 rfl rfl, fun _ => ⟨zmemT 587 rfl rfl, zmemT 588 rfl rfl⟩, (fun h => by cases h), (fun h => by cases h)⟩
set_option maxRecDepth 100000 in
theorem qX6_count : zMok zX6_count := ⟨zmemT 601 rfl rfl, ⟨by decide +kernel, by decide +kernel, by decide +kernel⟩, zmemT 1 rfl rfl, fun _ => ⟨zmemT 599 rfl rfl, zmemT 600 rfl rfl⟩, (fun h => by cases h), (fun h => by cases h)⟩
set_option maxRecDepth 100000 in
theorem qX6_keep : zMok zX6_keep := ⟨zmemT 611 rfl rfl, ⟨by decide +kernel, by decide +kernel, by decide +kernel⟩, zmemT 1 rfl rfl, fun _ => ⟨zmemT 609 rfl rfl, zmemT 610 rfl rfl⟩, (fun h => by cases h), (fun h => by cases h)⟩
set_option maxRecDepth 100000 in
theorem qX6_make : zMok zX6_make := ⟨zmemT 646 rfl rfl, ⟨by decide +kernel, by decide +kernel, by decide +kernel⟩, zmemT 1 rfl rfl, fun _ => ⟨zmemT 644 rfl rfl, zmemT 645 rfl rfl⟩, (fun h => by cases h), (fun h => by cases h)⟩
set_option maxRecDepth 100000 in
theorem qX6_element : zMok zX6_element := ⟨zmemT 790 rfl rfl, ⟨by decide +kernel, by decide +kernel, by decide +kernel⟩, zmemT 1 rfl rfl, fun _ => ⟨zmemT 788 rfl rfl, zmemT 789 rfl rfl⟩, (fun h => by cases h), (fun h => by cases h)⟩
set_option maxRecDepth 100000 in
theorem qX6_copy : zMok zX6_copy := ⟨zmemT 650 rfl rfl, ⟨by decide +kernel, by decide +kernel, by decide +kernel⟩, zmemT 1 rfl rfl, fun _ => ⟨zmemT 648 rfl rfl, zmemT 649 rfl rfl⟩, (fun h => by cases h), (fun h => by cases h)⟩
set_option maxRecDepth 100000 in
theorem qX6_weight : zMok zX6_weight := ⟨zmemT 665 rfl rfl, ⟨by decide +kernel, by decide +kernel, by decide +kernel⟩, zmemT 1 rfl rfl, fun _ => ⟨zmemT 663 rfl rfl, zmemT 664 rfl rfl⟩, (fun h => by cases h), (fun h => by cases h)⟩
set_option maxRecDepth 100000 in
theorem qX6_toss : zMok zX6_toss := ⟨zmemT 677 rfl rfl, ⟨by decide +kernel, by decide +kernel, by decide +kernel⟩, zmemT 1 rfl rfl, fun _ => ⟨zmemT 675 rfl rfl, zmemT 676 rfl rfl⟩, (fun h => by cases h), (fun h => by cases h)⟩
set_option maxRecDepth 100000 in
theorem qX6_isLetter : zMok zX6_isLetter := ⟨zmemT 269 rfl rfl, ⟨by decide +kernel, by decide +kernel, by decide +kernel⟩, zmemT 1 rfl rfl, (fun h => by cases h), fun _ => zmemT 268 rfl rfl, (fun h => by cases h)⟩
set_option maxRecDepth 100000 in
theorem qX6_isStyle : zMok zX6_isStyle := ⟨zmemT 331 rfl rfl, ⟨by decide +kernel, by decide +kernel, by decide +kernel⟩, zmemT 1 rfl rfl, (fun h => by cases h), fun _ => zmemT 330 rfl rfl, (fun h => by cases h)⟩
set_option maxRecDepth 100000 in
theorem qX6_isStyleOrFree : zMok zX6_isStyleOrFree := ⟨zmemT 425 rfl rfl, ⟨by decide +kernel, by decide +kernel, by decide +kernel⟩, zmemT 1 rfl rfl, (fun h => by cases h), fun _ => zmemT 424 rfl rfl, (fun h => by cases h)⟩
set_option maxRecDepth 100000 in
theorem qX6_isShelf : zMok zX6_isShelf := ⟨zmemT 614 rfl rfl, ⟨by decide +kernel, by decide +kernel, by decide +kernel⟩, zmemT 1 rfl rfl, (fun h => by cases h), fun _ => zmemT 613 rfl rfl, (fun h => by cases h)⟩
set_option maxRecDepth 100000 in
theorem qX6_orMissing : zMok zX6_orMissing := ⟨zmemT 299 rfl rfl, ⟨by decide +kernel, by decide +kernel, by decide +kernel⟩, zmemT 1 rfl rfl, (fun h => by cases h), fun _ => zmemT 298 rfl rfl, (fun h => by cases h)⟩
set_option maxRecDepth 100000 in
theorem qX6_digitOf : zMok zX6_digitOf := ⟨zmemT 398 rfl rfl, ⟨by decide +kernel, by decide +kernel, by decide +kernel⟩, zmemT 1 rfl rfl, (fun h => by cases h), fun _ => zmemT 397 rfl rfl, (fun h => by cases h)⟩
set_option maxRecDepth 100000 in
theorem qX6_hearSpeech : zMok zX6_hearSpeech := ⟨zmemT 410 rfl rfl, ⟨by decide +kernel, by decide +kernel, by decide +kernel⟩, zmemT 1 rfl rfl, fun _ => ⟨zmemT 409 rfl rfl, zmemS 9 rfl rfl⟩, (fun h => by cases h), (fun h => by cases h)⟩
set_option maxRecDepth 100000 in
theorem qX6_tallyIn : zMok zX6_tallyIn := ⟨zmemT 429 rfl rfl, ⟨by decide +kernel, by decide +kernel, by decide +kernel⟩, zmemT 1 rfl rfl, fun _ => ⟨zmemT 428 rfl rfl, zmemS 10 rfl rfl⟩, (fun h => by cases h), (fun h => by cases h)⟩
set_option maxRecDepth 100000 in
theorem qX6_keepNode : zMok zX6_keepNode := ⟨zmemT 626 rfl rfl, ⟨by decide +kernel, by decide +kernel, by decide +kernel⟩, zmemT 1 rfl rfl, fun _ => ⟨zmemT 625 rfl rfl, zmemS 25 rfl rfl⟩, (fun h => by cases h), (fun h => by cases h)⟩
set_option maxRecDepth 100000 in
theorem qX6_nodeRefusal : zMok zX6_nodeRefusal := ⟨zmemT 669 rfl rfl, ⟨by decide +kernel, by decide +kernel, by decide +kernel⟩, zmemT 1 rfl rfl, fun _ => ⟨zmemT 668 rfl rfl, zmemS 27 rfl rfl⟩, (fun h => by cases h), (fun h => by cases h)⟩
set_option maxRecDepth 100000 in
theorem qX7_init : zMok zX7_init := ⟨zmemT 798 rfl rfl, ⟨by decide +kernel, by decide +kernel, by decide +kernel⟩, zmemT 7 rfl rfl, (fun h => by cases h), (fun h => by cases h), fun _ => ⟨zmemT 797 rfl rfl, rfl, rfl⟩⟩
set_option maxRecDepth 100000 in
theorem qX7_in : zMok zX7_in := ⟨zmemT 913 rfl rfl, ⟨by decide +kernel, by decide +kernel, by decide +kernel⟩, zmemT 7 rfl rfl, (fun h => by cases h), fun _ => zmemT 912 rfl rfl, (fun h => by cases h)⟩
set_option maxRecDepth 100000 in
theorem qX7_isNode : zMok zX7_isNode := ⟨zmemT 928 rfl rfl, ⟨by decide +kernel, by decide +kernel, by decide +kernel⟩, zmemT 7 rfl rfl, fun _ => ⟨zmemT 927 rfl rfl, zmemS 30 rfl rfl⟩, (fun h => by cases h), (fun h => by cases h)⟩
set_option maxRecDepth 100000 in
theorem qX7_isTwo : zMok zX7_isTwo := ⟨zmemT 931 rfl rfl, ⟨by decide +kernel, by decide +kernel, by decide +kernel⟩, zmemT 7 rfl rfl, (fun h => by cases h), fun _ => zmemT 930 rfl rfl, (fun h => by cases h)⟩
set_option maxRecDepth 100000 in
theorem qX7_mayKeep : zMok zX7_mayKeep := ⟨zmemT 975 rfl rfl, ⟨by decide +kernel, by decide +kernel, by decide +kernel⟩, zmemT 7 rfl rfl, (fun h => by cases h), fun _ => zmemT 974 rfl rfl, (fun h => by cases h)⟩
set_option maxRecDepth 100000 in
theorem qX7_isStyle : zMok zX7_isStyle := ⟨zmemT 971 rfl rfl, ⟨by decide +kernel, by decide +kernel, by decide +kernel⟩, zmemT 7 rfl rfl, (fun h => by cases h), fun _ => zmemT 970 rfl rfl, (fun h => by cases h)⟩
set_option maxRecDepth 100000 in
theorem qX7_sets : zMok zX7_sets := ⟨zmemT 919 rfl rfl, ⟨by decide +kernel, by decide +kernel, by decide +kernel⟩, zmemT 7 rfl rfl, fun _ => ⟨zmemT 918 rfl rfl, zmemS 29 rfl rfl⟩, (fun h => by cases h), (fun h => by cases h)⟩
set_option maxRecDepth 100000 in
theorem qX7_leaf : zMok zX7_leaf := ⟨zmemT 910 rfl rfl, ⟨by decide +kernel, by decide +kernel, by decide +kernel⟩, zmemT 7 rfl rfl, fun _ => ⟨zmemT 908 rfl rfl, zmemT 909 rfl rfl⟩, (fun h => by cases h), (fun h => by cases h)⟩
set_option maxRecDepth 100000 in
theorem qX7_node : zMok zX7_node := ⟨zmemT 923 rfl rfl, ⟨by decide +kernel, by decide +kernel, by decide +kernel⟩, zmemT 7 rfl rfl, fun _ => ⟨zmemT 921 rfl rfl, zmemT 922 rfl rfl⟩, (fun h => by cases h), (fun h => by cases h)⟩
set_option maxRecDepth 100000 in
theorem qX7_undo : zMok zX7_undo := ⟨zmemT 935 rfl rfl, ⟨by decide +kernel, by decide +kernel, by decide +kernel⟩, zmemT 7 rfl rfl, fun _ => ⟨zmemT 933 rfl rfl, zmemT 934 rfl rfl⟩, (fun h => by cases h), (fun h => by cases h)⟩
set_option maxRecDepth 100000 in
theorem qX7_means : zMok zX7_means := ⟨zmemT 939 rfl rfl, ⟨by decide +kernel, by decide +kernel, by decide +kernel⟩, zmemT 7 rfl rfl, fun _ => ⟨zmemT 937 rfl rfl, zmemT 938 rfl rfl⟩, (fun h => by cases h), (fun h => by cases h)⟩
set_option maxRecDepth 100000 in
theorem qX7_isRight : zMok zX7_isRight := ⟨zmemT 948 rfl rfl, ⟨by decide +kernel, by decide +kernel, by decide +kernel⟩, zmemT 7 rfl rfl, fun _ => ⟨zmemT 947 rfl rfl, zmemS 31 rfl rfl⟩, (fun h => by cases h), (fun h => by cases h)⟩
set_option maxRecDepth 100000 in
theorem qX7_look : zMok zX7_look := ⟨zmemT 943 rfl rfl, ⟨by decide +kernel, by decide +kernel, by decide +kernel⟩, zmemT 7 rfl rfl, fun _ => ⟨zmemT 941 rfl rfl, zmemT 942 rfl rfl⟩, (fun h => by cases h), (fun h => by cases h)⟩
set_option maxRecDepth 100000 in
theorem qX7_areAlike : zMok zX7_areAlike := ⟨zmemT 956 rfl rfl, ⟨by decide +kernel, by decide +kernel, by decide +kernel⟩, zmemT 7 rfl rfl, fun _ => ⟨zmemT 955 rfl rfl, zmemS 32 rfl rfl⟩, (fun h => by cases h), (fun h => by cases h)⟩
set_option maxRecDepth 100000 in
theorem qX7_alike : zMok zX7_alike := ⟨zmemT 952 rfl rfl, ⟨by decide +kernel, by decide +kernel, by decide +kernel⟩, zmemT 7 rfl rfl, fun _ => ⟨zmemT 950 rfl rfl, zmemT 951 rfl rfl⟩, (fun h => by cases h), (fun h => by cases h)⟩
set_option maxRecDepth 100000 in
theorem qX7_has : zMok zX7_has := ⟨zmemT 964 rfl rfl, ⟨by decide +kernel, by decide +kernel, by decide +kernel⟩, zmemT 7 rfl rfl, fun _ => ⟨zmemT 963 rfl rfl, zmemS 33 rfl rfl⟩, (fun h => by cases h), (fun h => by cases h)⟩
set_option maxRecDepth 100000 in
theorem qX7_times : zMok zX7_times := ⟨zmemT 960 rfl rfl, ⟨by decide +kernel, by decide +kernel, by decide +kernel⟩, zmemT 7 rfl rfl, fun _ => ⟨zmemT 958 rfl rfl, zmemT 959 rfl rfl⟩, (fun h => by cases h), (fun h => by cases h)⟩
set_option maxRecDepth 100000 in
theorem qX7_keeps : zMok zX7_keeps := ⟨zmemT 968 rfl rfl, ⟨by decide +kernel, by decide +kernel, by decide +kernel⟩, zmemT 7 rfl rfl, fun _ => ⟨zmemT 966 rfl rfl, zmemT 967 rfl rfl⟩, (fun h => by cases h), (fun h => by cases h)⟩
set_option maxRecDepth 100000 in
theorem qX7_digits : zMok zX7_digits := ⟨zmemT 990 rfl rfl, ⟨by decide +kernel, by decide +kernel, by decide +kernel⟩, zmemT 7 rfl rfl, (fun h => by cases h), fun _ => zmemT 989 rfl rfl, (fun h => by cases h)⟩
set_option maxRecDepth 100000 in
theorem qX7_own : zMok zX7_own := ⟨zmemT 987 rfl rfl, ⟨by decide +kernel, by decide +kernel, by decide +kernel⟩, zmemT 7 rfl rfl, fun _ => ⟨zmemT 986 rfl rfl, zmemS 35 rfl rfl⟩, (fun h => by cases h), (fun h => by cases h)⟩
set_option maxRecDepth 100000 in
theorem qX7_length : zMok zX7_length := ⟨zmemT 983 rfl rfl, ⟨by decide +kernel, by decide +kernel, by decide +kernel⟩, zmemT 7 rfl rfl, fun _ => ⟨zmemT 982 rfl rfl, zmemS 34 rfl rfl⟩, (fun h => by cases h), (fun h => by cases h)⟩
set_option maxRecDepth 100000 in
theorem qX7_says : zMok zX7_says := ⟨zmemT 1010 rfl rfl, ⟨by decide +kernel, by decide +kernel, by decide +kernel⟩, zmemT 7 rfl rfl, fun _ => ⟨zmemT 1009 rfl rfl, zmemS 39 rfl rfl⟩, (fun h => by cases h), (fun h => by cases h)⟩
set_option maxRecDepth 100000 in
theorem qX7_keepsIt : zMok zX7_keepsIt := ⟨zmemT 1006 rfl rfl, ⟨by decide +kernel, by decide +kernel, by decide +kernel⟩, zmemT 7 rfl rfl, fun _ => ⟨zmemT 1005 rfl rfl, zmemS 38 rfl rfl⟩, (fun h => by cases h), (fun h => by cases h)⟩
set_option maxRecDepth 100000 in
theorem qX7_say : zMok zX7_say := ⟨zmemT 1002 rfl rfl, ⟨by decide +kernel, by decide +kernel, by decide +kernel⟩, zmemT 7 rfl rfl, fun _ => ⟨zmemT 1001 rfl rfl, zmemS 37 rfl rfl⟩, (fun h => by cases h), (fun h => by cases h)⟩
set_option maxRecDepth 100000 in
theorem qX7_sayAll : zMok zX7_sayAll := ⟨zmemT 998 rfl rfl, ⟨by decide +kernel, by decide +kernel, by decide +kernel⟩, zmemT 7 rfl rfl, fun _ => ⟨zmemT 997 rfl rfl, zmemS 36 rfl rfl⟩, (fun h => by cases h), (fun h => by cases h)⟩
set_option maxRecDepth 100000 in
theorem qX7_words : zMok zX7_words := ⟨zmemT 979 rfl rfl, ⟨by decide +kernel, by decide +kernel, by decide +kernel⟩, zmemT 7 rfl rfl, fun _ => ⟨zmemT 977 rfl rfl, zmemT 978 rfl rfl⟩, (fun h => by cases h), (fun h => by cases h)⟩
set_option maxRecDepth 100000 in
theorem qX7_word : zMok zX7_word := ⟨zmemT 994 rfl rfl, ⟨by decide +kernel, by decide +kernel, by decide +kernel⟩, zmemT 7 rfl rfl, fun _ => ⟨zmemT 992 rfl rfl, zmemT 993 rfl rfl⟩, (fun h => by cases h), (fun h => by cases h)⟩
set_option maxRecDepth 100000 in
theorem qX7_sound : zMok zX7_sound := ⟨zmemT 1014 rfl rfl, ⟨by decide +kernel, by decide +kernel, by decide +kernel⟩, zmemT 7 rfl rfl, fun _ => ⟨zmemT 1012 rfl rfl, zmemT 1013 rfl rfl⟩, (fun h => by cases h), (fun h => by cases h)⟩
set_option maxRecDepth 100000 in
theorem qX7_adds : zMok zX7_adds := ⟨zmemT 1023 rfl rfl, ⟨by decide +kernel, by decide +kernel, by decide +kernel⟩, zmemT 7 rfl rfl, fun _ => ⟨zmemT 1022 rfl rfl, zmemS 40 rfl rfl⟩, (fun h => by cases h), (fun h => by cases h)⟩
set_option maxRecDepth 100000 in
theorem qX7_grows : zMok zX7_grows := ⟨zmemT 1027 rfl rfl, ⟨by decide +kernel, by decide +kernel, by decide +kernel⟩, zmemT 7 rfl rfl, fun _ => ⟨zmemT 1026 rfl rfl, zmemS 41 rfl rfl⟩, (fun h => by cases h), (fun h => by cases h)⟩
set_option maxRecDepth 100000 in
theorem qX7_isSame : zMok zX7_isSame := ⟨zmemT 1031 rfl rfl, ⟨by decide +kernel, by decide +kernel, by decide +kernel⟩, zmemT 7 rfl rfl, fun _ => ⟨zmemT 1030 rfl rfl, zmemS 42 rfl rfl⟩, (fun h => by cases h), (fun h => by cases h)⟩
set_option maxRecDepth 100000 in
theorem qX7_clear : zMok zX7_clear := ⟨zmemT 1018 rfl rfl, ⟨by decide +kernel, by decide +kernel, by decide +kernel⟩, zmemT 7 rfl rfl, fun _ => ⟨zmemT 1016 rfl rfl, zmemT 1017 rfl rfl⟩, (fun h => by cases h), (fun h => by cases h)⟩
set_option maxRecDepth 100000 in
theorem qX7_hear : zMok zX7_hear := ⟨zmemT 1035 rfl rfl, ⟨by decide +kernel, by decide +kernel, by decide +kernel⟩, zmemT 7 rfl rfl, fun _ => ⟨zmemT 1033 rfl rfl, zmemT 1034 rfl rfl⟩, (fun h => by cases h), (fun h => by cases h)⟩
set_option maxRecDepth 100000 in
theorem qX7_listen : zMok zX7_listen := ⟨zmemT 1040 rfl rfl, ⟨by decide +kernel, by decide +kernel, by decide +kernel⟩, zmemT 7 rfl rfl, fun _ => ⟨zmemT 1038 rfl rfl, zmemT 1039 rfl rfl⟩, (fun h => by cases h), (fun h => by cases h)⟩
set_option maxRecDepth 100000 in
theorem qX7_hears : zMok zX7_hears := ⟨zmemT 1044 rfl rfl, ⟨by decide +kernel, by decide +kernel, by decide +kernel⟩, zmemT 7 rfl rfl, fun _ => ⟨zmemT 1043 rfl rfl, zmemS 43 rfl rfl⟩, (fun h => by cases h), (fun h => by cases h)⟩
set_option maxRecDepth 100000 in
theorem qX7_hush : zMok zX7_hush := ⟨zmemT 1048 rfl rfl, ⟨by decide +kernel, by decide +kernel, by decide +kernel⟩, zmemT 7 rfl rfl, fun _ => ⟨zmemT 1046 rfl rfl, zmemT 1047 rfl rfl⟩, (fun h => by cases h), (fun h => by cases h)⟩
set_option maxRecDepth 100000 in
theorem qX7_ear : zMok zX7_ear := ⟨zmemT 1052 rfl rfl, ⟨by decide +kernel, by decide +kernel, by decide +kernel⟩, zmemT 7 rfl rfl, fun _ => ⟨zmemT 1050 rfl rfl, zmemT 1051 rfl rfl⟩, (fun h => by cases h), (fun h => by cases h)⟩
set_option maxRecDepth 100000 in
theorem qX7_times_ : zMok zX7_times_ := ⟨zmemT 1082 rfl rfl, ⟨by decide +kernel, by decide +kernel, by decide +kernel⟩, zmemT 7 rfl rfl, (fun h => by cases h), fun _ => zmemT 1081 rfl rfl, (fun h => by cases h)⟩
set_option maxRecDepth 100000 in
theorem qX7_plus : zMok zX7_plus := ⟨zmemT 1086 rfl rfl, ⟨by decide +kernel, by decide +kernel, by decide +kernel⟩, zmemT 7 rfl rfl, (fun h => by cases h), fun _ => zmemT 1085 rfl rfl, (fun h => by cases h)⟩
set_option maxRecDepth 100000 in
theorem qX7_isLet : zMok zX7_isLet := ⟨zmemT 1069 rfl rfl, ⟨by decide +kernel, by decide +kernel, by decide +kernel⟩, zmemT 7 rfl rfl, fun _ => ⟨zmemT 1068 rfl rfl, zmemS 46 rfl rfl⟩, (fun h => by cases h), (fun h => by cases h)⟩
set_option maxRecDepth 100000 in
theorem qX7_isNumber : zMok zX7_isNumber := ⟨zmemT 1077 rfl rfl, ⟨by decide +kernel, by decide +kernel, by decide +kernel⟩, zmemT 7 rfl rfl, fun _ => ⟨zmemT 1076 rfl rfl, zmemS 48 rfl rfl⟩, (fun h => by cases h), (fun h => by cases h)⟩
set_option maxRecDepth 100000 in
theorem qX7_within : zMok zX7_within := ⟨zmemT 1073 rfl rfl, ⟨by decide +kernel, by decide +kernel, by decide +kernel⟩, zmemT 7 rfl rfl, fun _ => ⟨zmemT 1072 rfl rfl, zmemS 47 rfl rfl⟩, (fun h => by cases h), (fun h => by cases h)⟩
set_option maxRecDepth 100000 in
theorem qX7_reckons : zMok zX7_reckons := ⟨zmemT 1065 rfl rfl, ⟨by decide +kernel, by decide +kernel, by decide +kernel⟩, zmemT 7 rfl rfl, fun _ => ⟨zmemT 1064 rfl rfl, zmemS 45 rfl rfl⟩, (fun h => by cases h), (fun h => by cases h)⟩
set_option maxRecDepth 100000 in
theorem qX7_counted : zMok zX7_counted := ⟨zmemT 1061 rfl rfl, ⟨by decide +kernel, by decide +kernel, by decide +kernel⟩, zmemT 7 rfl rfl, fun _ => ⟨zmemT 1060 rfl rfl, zmemS 44 rfl rfl⟩, (fun h => by cases h), (fun h => by cases h)⟩
set_option maxRecDepth 100000 in
theorem qX7_readings : zMok zX7_readings := ⟨zmemT 1056 rfl rfl, ⟨by decide +kernel, by decide +kernel, by decide +kernel⟩, zmemT 7 rfl rfl, fun _ => ⟨zmemT 1054 rfl rfl, zmemT 1055 rfl rfl⟩, (fun h => by cases h), (fun h => by cases h)⟩
set_option maxRecDepth 100000 in
theorem qX7_makes : zMok zX7_makes := ⟨zmemT 1098 rfl rfl, ⟨by decide +kernel, by decide +kernel, by decide +kernel⟩, zmemT 7 rfl rfl, fun _ => ⟨zmemT 1097 rfl rfl, zmemS 50 rfl rfl⟩, (fun h => by cases h), (fun h => by cases h)⟩
set_option maxRecDepth 100000 in
theorem qX7_takes : zMok zX7_takes := ⟨zmemT 1094 rfl rfl, ⟨by decide +kernel, by decide +kernel, by decide +kernel⟩, zmemT 7 rfl rfl, fun _ => ⟨zmemT 1093 rfl rfl, zmemS 49 rfl rfl⟩, (fun h => by cases h), (fun h => by cases h)⟩
set_option maxRecDepth 100000 in
theorem qX7_takesTwo : zMok zX7_takesTwo := ⟨zmemT 1102 rfl rfl, ⟨by decide +kernel, by decide +kernel, by decide +kernel⟩, zmemT 7 rfl rfl, fun _ => ⟨zmemT 1101 rfl rfl, zmemS 51 rfl rfl⟩, (fun h => by cases h), (fun h => by cases h)⟩
set_option maxRecDepth 100000 in
theorem qX7_write : zMok zX7_write := ⟨zmemT 1090 rfl rfl, ⟨by decide +kernel, by decide +kernel, by decide +kernel⟩, zmemT 7 rfl rfl, fun _ => ⟨zmemT 1088 rfl rfl, zmemT 1089 rfl rfl⟩, (fun h => by cases h), (fun h => by cases h)⟩
set_option maxRecDepth 100000 in
theorem qX7_copies : zMok zX7_copies := ⟨zmemT 1106 rfl rfl, ⟨by decide +kernel, by decide +kernel, by decide +kernel⟩, zmemT 7 rfl rfl, fun _ => ⟨zmemT 1105 rfl rfl, zmemS 52 rfl rfl⟩, (fun h => by cases h), (fun h => by cases h)⟩
set_option maxRecDepth 100000 in
theorem qX7_rank : zMok zX7_rank := ⟨zmemT 1116 rfl rfl, ⟨by decide +kernel, by decide +kernel, by decide +kernel⟩, zmemT 7 rfl rfl, fun _ => ⟨zmemT 1115 rfl rfl, zmemS 53 rfl rfl⟩, (fun h => by cases h), (fun h => by cases h)⟩
set_option maxRecDepth 100000 in
theorem qX7_inner : zMok zX7_inner := ⟨zmemT 1120 rfl rfl, ⟨by decide +kernel, by decide +kernel, by decide +kernel⟩, zmemT 7 rfl rfl, fun _ => ⟨zmemT 1119 rfl rfl, zmemS 54 rfl rfl⟩, (fun h => by cases h), (fun h => by cases h)⟩
set_option maxRecDepth 100000 in
theorem qX7_innerTwo : zMok zX7_innerTwo := ⟨zmemT 1124 rfl rfl, ⟨by decide +kernel, by decide +kernel, by decide +kernel⟩, zmemT 7 rfl rfl, fun _ => ⟨zmemT 1123 rfl rfl, zmemS 55 rfl rfl⟩, (fun h => by cases h), (fun h => by cases h)⟩
set_option maxRecDepth 100000 in
theorem qX7_place : zMok zX7_place := ⟨zmemT 1110 rfl rfl, ⟨by decide +kernel, by decide +kernel, by decide +kernel⟩, zmemT 7 rfl rfl, fun _ => ⟨zmemT 1108 rfl rfl, zmemT 1109 rfl rfl⟩, (fun h => by cases h), (fun h => by cases h)⟩
set_option maxRecDepth 100000 in
theorem qX7_doubt : zMok zX7_doubt := ⟨zmemT 1128 rfl rfl, ⟨by decide +kernel, by decide +kernel, by decide +kernel⟩, zmemT 7 rfl rfl, fun _ => ⟨zmemT 1126 rfl rfl, zmemT 1127 rfl rfl⟩, (fun h => by cases h), (fun h => by cases h)⟩
set_option maxRecDepth 100000 in
theorem qX7_keepable : zMok zX7_keepable := ⟨zmemT 1136 rfl rfl, ⟨by decide +kernel, by decide +kernel, by decide +kernel⟩, zmemT 7 rfl rfl, fun _ => ⟨zmemT 1135 rfl rfl, zmemS 56 rfl rfl⟩, (fun h => by cases h), (fun h => by cases h)⟩
set_option maxRecDepth 100000 in
theorem qX7_bits : zMok zX7_bits := ⟨zmemT 1139 rfl rfl, ⟨by decide +kernel, by decide +kernel, by decide +kernel⟩, zmemT 7 rfl rfl, (fun h => by cases h), fun _ => zmemT 1138 rfl rfl, (fun h => by cases h)⟩
set_option maxRecDepth 100000 in
theorem qX7_fewest : zMok zX7_fewest := ⟨zmemT 1132 rfl rfl, ⟨by decide +kernel, by decide +kernel, by decide +kernel⟩, zmemT 7 rfl rfl, fun _ => ⟨zmemT 1130 rfl rfl, zmemT 1131 rfl rfl⟩, (fun h => by cases h), (fun h => by cases h)⟩
set_option maxRecDepth 100000 in
theorem qX7_isOnly : zMok zX7_isOnly := ⟨zmemT 1143 rfl rfl, ⟨by decide +kernel, by decide +kernel, by decide +kernel⟩, zmemT 7 rfl rfl, fun _ => ⟨zmemT 1142 rfl rfl, zmemS 57 rfl rfl⟩, (fun h => by cases h), (fun h => by cases h)⟩
set_option maxRecDepth 100000 in
theorem qX7_walk : zMok zX7_walk := ⟨zmemT 1147 rfl rfl, ⟨by decide +kernel, by decide +kernel, by decide +kernel⟩, zmemT 7 rfl rfl, fun _ => ⟨zmemT 1145 rfl rfl, zmemT 1146 rfl rfl⟩, (fun h => by cases h), (fun h => by cases h)⟩
set_option maxRecDepth 100000 in
theorem qX7_down : zMok zX7_down := ⟨zmemT 1156 rfl rfl, ⟨by decide +kernel, by decide +kernel, by decide +kernel⟩, zmemT 7 rfl rfl, fun _ => ⟨zmemT 1155 rfl rfl, zmemS 58 rfl rfl⟩, (fun h => by cases h), (fun h => by cases h)⟩
set_option maxRecDepth 100000 in
theorem qX7_go : zMok zX7_go := ⟨zmemT 1151 rfl rfl, ⟨by decide +kernel, by decide +kernel, by decide +kernel⟩, zmemT 7 rfl rfl, fun _ => ⟨zmemT 1149 rfl rfl, zmemT 1150 rfl rfl⟩, (fun h => by cases h), (fun h => by cases h)⟩
set_option maxRecDepth 100000 in
theorem qX7_where : zMok zX7_where := ⟨zmemT 1160 rfl rfl, ⟨by decide +kernel, by decide +kernel, by decide +kernel⟩, zmemT 7 rfl rfl, fun _ => ⟨zmemT 1158 rfl rfl, zmemT 1159 rfl rfl⟩, (fun h => by cases h), (fun h => by cases h)⟩
set_option maxRecDepth 100000 in
theorem qX7_lead : zMok zX7_lead := ⟨zmemT 1164 rfl rfl, ⟨by decide +kernel, by decide +kernel, by decide +kernel⟩, zmemT 7 rfl rfl, fun _ => ⟨zmemT 1162 rfl rfl, zmemT 1163 rfl rfl⟩, (fun h => by cases h), (fun h => by cases h)⟩
set_option maxRecDepth 100000 in
theorem qX7_glanced : zMok zX7_glanced := ⟨zmemT 1172 rfl rfl, ⟨by decide +kernel, by decide +kernel, by decide +kernel⟩, zmemT 7 rfl rfl, fun _ => ⟨zmemT 1171 rfl rfl, zmemS 59 rfl rfl⟩, (fun h => by cases h), (fun h => by cases h)⟩
set_option maxRecDepth 100000 in
theorem qX7_glance : zMok zX7_glance := ⟨zmemT 1168 rfl rfl, ⟨by decide +kernel, by decide +kernel, by decide +kernel⟩, zmemT 7 rfl rfl, fun _ => ⟨zmemT 1166 rfl rfl, zmemT 1167 rfl rfl⟩, (fun h => by cases h), (fun h => by cases h)⟩
set_option maxRecDepth 100000 in
theorem qX7_inside : zMok zX7_inside := ⟨zmemT 1184 rfl rfl, ⟨by decide +kernel, by decide +kernel, by decide +kernel⟩, zmemT 7 rfl rfl, fun _ => ⟨zmemT 1183 rfl rfl, zmemS 61 rfl rfl⟩, (fun h => by cases h), (fun h => by cases h)⟩
set_option maxRecDepth 100000 in
theorem qX7_difference : zMok zX7_difference := ⟨zmemT 1180 rfl rfl, ⟨by decide +kernel, by decide +kernel, by decide +kernel⟩, zmemT 7 rfl rfl, fun _ => ⟨zmemT 1179 rfl rfl, zmemS 60 rfl rfl⟩, (fun h => by cases h), (fun h => by cases h)⟩
set_option maxRecDepth 100000 in
theorem qX7_wholes : zMok zX7_wholes := ⟨zmemT 1192 rfl rfl, ⟨by decide +kernel, by decide +kernel, by decide +kernel⟩, zmemT 7 rfl rfl, fun _ => ⟨zmemT 1191 rfl rfl, zmemS 62 rfl rfl⟩, (fun h => by cases h), (fun h => by cases h)⟩
set_option maxRecDepth 100000 in
theorem qX7_changed : zMok zX7_changed := ⟨zmemT 1176 rfl rfl, ⟨by decide +kernel, by decide +kernel, by decide +kernel⟩, zmemT 7 rfl rfl, fun _ => ⟨zmemT 1174 rfl rfl, zmemT 1175 rfl rfl⟩, (fun h => by cases h), (fun h => by cases h)⟩
set_option maxRecDepth 100000 in
theorem qX7_exchanged : zMok zX7_exchanged := ⟨zmemT 1188 rfl rfl, ⟨by decide +kernel, by decide +kernel, by decide +kernel⟩, zmemT 7 rfl rfl, fun _ => ⟨zmemT 1186 rfl rfl, zmemT 1187 rfl rfl⟩, (fun h => by cases h), (fun h => by cases h)⟩
set_option maxRecDepth 100000 in
theorem qX7_functions : zMok zX7_functions := ⟨zmemT 1200 rfl rfl, ⟨by decide +kernel, by decide +kernel, by decide +kernel⟩, zmemT 7 rfl rfl, fun _ => ⟨zmemT 1199 rfl rfl, zmemS 63 rfl rfl⟩, (fun h => by cases h), (fun h => by cases h)⟩
set_option maxRecDepth 100000 in
theorem qX7_count : zMok zX7_count := ⟨zmemT 1196 rfl rfl, ⟨by decide +kernel, by decide +kernel, by decide +kernel⟩, zmemT 7 rfl rfl, fun _ => ⟨zmemT 1194 rfl rfl, zmemT 1195 rfl rfl⟩, (fun h => by cases h), (fun h => by cases h)⟩
set_option maxRecDepth 100000 in
theorem qX7_isShelf : zMok zX7_isShelf := ⟨zmemT 1207 rfl rfl, ⟨by decide +kernel, by decide +kernel, by decide +kernel⟩, zmemT 7 rfl rfl, (fun h => by cases h), fun _ => zmemT 1206 rfl rfl, (fun h => by cases h)⟩
set_option maxRecDepth 100000 in
theorem qX7_kinds : zMok zX7_kinds := ⟨zmemT 1211 rfl rfl, ⟨by decide +kernel, by decide +kernel, by decide +kernel⟩, zmemT 7 rfl rfl, fun _ => ⟨zmemT 1210 rfl rfl, zmemS 64 rfl rfl⟩, (fun h => by cases h), (fun h => by cases h)⟩
set_option maxRecDepth 100000 in
theorem qX7_keep : zMok zX7_keep := ⟨zmemT 1204 rfl rfl, ⟨by decide +kernel, by decide +kernel, by decide +kernel⟩, zmemT 7 rfl rfl, fun _ => ⟨zmemT 1202 rfl rfl, zmemT 1203 rfl rfl⟩, (fun h => by cases h), (fun h => by cases h)⟩
set_option maxRecDepth 100000 in
theorem qX7_make : zMok zX7_make := ⟨zmemT 1215 rfl rfl, ⟨by decide +kernel, by decide +kernel, by decide +kernel⟩, zmemT 7 rfl rfl, fun _ => ⟨zmemT 1213 rfl rfl, zmemT 1214 rfl rfl⟩, (fun h => by cases h), (fun h => by cases h)⟩
set_option maxRecDepth 100000 in
theorem qX7_element : zMok zX7_element := ⟨zmemT 1219 rfl rfl, ⟨by decide +kernel, by decide +kernel, by decide +kernel⟩, zmemT 7 rfl rfl, fun _ => ⟨zmemT 1217 rfl rfl, zmemT 1218 rfl rfl⟩, (fun h => by cases h), (fun h => by cases h)⟩
set_option maxRecDepth 100000 in
theorem qX7_copy : zMok zX7_copy := ⟨zmemT 1223 rfl rfl, ⟨by decide +kernel, by decide +kernel, by decide +kernel⟩, zmemT 7 rfl rfl, fun _ => ⟨zmemT 1221 rfl rfl, zmemT 1222 rfl rfl⟩, (fun h => by cases h), (fun h => by cases h)⟩
set_option maxRecDepth 100000 in
theorem qX7_held : zMok zX7_held := ⟨zmemT 1231 rfl rfl, ⟨by decide +kernel, by decide +kernel, by decide +kernel⟩, zmemT 7 rfl rfl, fun _ => ⟨zmemT 1230 rfl rfl, zmemS 65 rfl rfl⟩, (fun h => by cases h), (fun h => by cases h)⟩
set_option maxRecDepth 100000 in
theorem qX7_weight : zMok zX7_weight := ⟨zmemT 1227 rfl rfl, ⟨by decide +kernel, by decide +kernel, by decide +kernel⟩, zmemT 7 rfl rfl, fun _ => ⟨zmemT 1225 rfl rfl, zmemT 1226 rfl rfl⟩, (fun h => by cases h), (fun h => by cases h)⟩
set_option maxRecDepth 100000 in
theorem qX7_toss : zMok zX7_toss := ⟨zmemT 1235 rfl rfl, ⟨by decide +kernel, by decide +kernel, by decide +kernel⟩, zmemT 7 rfl rfl, fun _ => ⟨zmemT 1233 rfl rfl, zmemT 1234 rfl rfl⟩, (fun h => by cases h), (fun h => by cases h)⟩
set_option maxRecDepth 100000 in
theorem qJ6_bitCount_0f7a4 : zMok zJ6_bitCount_0f7a4 := ⟨zmemT 604 rfl rfl, ⟨by decide +kernel, by decide +kernel, by decide +kernel⟩, zmemT 15 rfl rfl, (fun h => by cases h), fun _ => zmemT 603 rfl rfl, (fun h => by cases h)⟩
set_option maxRecDepth 100000 in
theorem qJ9_max_7cf53 : zMok zJ9_max_7cf53 := ⟨zmemT 246 rfl rfl, ⟨by decide +kernel, by decide +kernel, by decide +kernel⟩, zmemT 9 rfl rfl, (fun h => by cases h), fun _ => zmemT 245 rfl rfl, (fun h => by cases h)⟩
set_option maxRecDepth 100000 in
theorem qJ9_min_7cf53 : zMok zJ9_min_7cf53 := ⟨zmemT 783 rfl rfl, ⟨by decide +kernel, by decide +kernel, by decide +kernel⟩, zmemT 9 rfl rfl, (fun h => by cases h), fun _ => zmemT 782 rfl rfl, (fun h => by cases h)⟩
set_option maxRecDepth 100000 in
theorem qJ9_min_f86c9 : zMok zJ9_min_f86c9 := ⟨zmemT 465 rfl rfl, ⟨by decide +kernel, by decide +kernel, by decide +kernel⟩, zmemT 9 rfl rfl, (fun h => by cases h), fun _ => zmemT 464 rfl rfl, (fun h => by cases h)⟩
theorem zms_ok0 : ∀ z ∈ ([zX0_init, zX0_add, zX0_tally, zX0_waysOf, zX0_isBracketed, zX0_bareWays, zX0_kindByEnds, zX0_partFrom, zX0_partTo, zX0_numberIn, zX0_build, zX0_buildSpan, zX0_buildBare, zX0_buildPair, zX0_placeOf, zX0_placeIn, zX0_placeBare, zX0_placePair, zX1_isPair, zX1_isPrefix, zX1_hasBit, zX1_withBit, zX1_isDoubtful, zX2_init, zX2_has, zX2_isFull, zX2_sizeOf, zX2_partOf, zX2_put, zX2_addPart] : List zMt), zMok z := zcons qX0_init (zcons qX0_add (zcons qX0_tally (zcons qX0_waysOf (zcons qX0_isBracketed (zcons qX0_bareWays (zcons qX0_kindByEnds (zcons qX0_partFrom (zcons qX0_partTo (zcons qX0_numberIn (zcons qX0_build (zcons qX0_buildSpan (zcons qX0_buildBare (zcons qX0_buildPair (zcons qX0_placeOf (zcons qX0_placeIn (zcons qX0_placeBare (zcons qX0_placePair (zcons qX1_isPair (zcons qX1_isPrefix (zcons qX1_hasBit (zcons qX1_withBit (zcons qX1_isDoubtful (zcons qX2_init (zcons qX2_has (zcons qX2_isFull (zcons qX2_sizeOf (zcons qX2_partOf (zcons qX2_put (zcons qX2_addPart (znil))))))))))))))))))))))))))))))
theorem zms_ok1 : ∀ z ∈ ([zX2_ownWords, zX2_firstAlike, zX2_shapeOf, zX2_isSameTop, zX2_isAlike, zX2_isRight, zX2_timesWithin, zX2_tallyOf, zX2_firstUnlike, zX2_differenceOf, zX2_exchangesOf, zX2_layKinds, zX2_difference, zX2_exchanges, zX2_layKindsFrom, zX3_init, zX3_drop, zX3_holdNode, zX3_holdNoughts, zX3_holdRow, zX3_hasRow, zX3_hasSpan, zX3_weighNode, zX4_init, zX4_isTooLong, zX4_sayInStyle, zX4_saySparingly, zX4_isSameAs, zX4_tell, zX4_tellBare] : List zMt), zMok z := zcons qX2_ownWords (zcons qX2_firstAlike (zcons qX2_shapeOf (zcons qX2_isSameTop (zcons qX2_isAlike (zcons qX2_isRight (zcons qX2_timesWithin (zcons qX2_tallyOf (zcons qX2_firstUnlike (zcons qX2_differenceOf (zcons qX2_exchangesOf (zcons qX2_layKinds (zcons qX2_difference (zcons qX2_exchanges (zcons qX2_layKindsFrom (zcons qX3_init (zcons qX3_drop (zcons qX3_holdNode (zcons qX3_holdNoughts (zcons qX3_holdRow (zcons qX3_hasRow (zcons qX3_hasSpan (zcons qX3_weighNode (zcons qX4_init (zcons qX4_isTooLong (zcons qX4_sayInStyle (zcons qX4_saySparingly (zcons qX4_isSameAs (zcons qX4_tell (zcons qX4_tellBare (znil))))))))))))))))))))))))))))))
theorem zms_ok2 : ∀ z ∈ ([zX4_isPartKept, zX4_addDigits, zX4_add, zX5_init, zX5_isBegun, zX5_top, zX5_here, zX5_beginAt, zX5_stepDown, zX5_stepUp, zX5_stepBeside, zX5_asNumber, zX5_follow, zX5_leadsSomewhere, zX6_init, zX6_leaf, zX6_node, zX6_undo, zX6_means, zX6_look, zX6_alike, zX6_times, zX6_keeps, zX6_words, zX6_word, zX6_sound, zX6_clear, zX6_hear, zX6_listen, zX6_hush] : List zMt), zMok z := zcons qX4_isPartKept (zcons qX4_addDigits (zcons qX4_add (zcons qX5_init (zcons qX5_isBegun (zcons qX5_top (zcons qX5_here (zcons qX5_beginAt (zcons qX5_stepDown (zcons qX5_stepUp (zcons qX5_stepBeside (zcons qX5_asNumber (zcons qX5_follow (zcons qX5_leadsSomewhere (zcons qX6_init (zcons qX6_leaf (zcons qX6_node (zcons qX6_undo (zcons qX6_means (zcons qX6_look (zcons qX6_alike (zcons qX6_times (zcons qX6_keeps (zcons qX6_words (zcons qX6_word (zcons qX6_sound (zcons qX6_clear (zcons qX6_hear (zcons qX6_listen (zcons qX6_hush (znil))))))))))))))))))))))))))))))
theorem zms_ok3 : ∀ z ∈ ([zX6_ear, zX6_readings, zX6_write, zX6_place, zX6_doubt, zX6_fewest, zX6_walk, zX6_go, zX6_where, zX6_lead, zX6_glance, zX6_changed, zX6_exchanged, zX6_count, zX6_keep, zX6_make, zX6_element, zX6_copy, zX6_weight, zX6_toss, zX6_isLetter, zX6_isStyle, zX6_isStyleOrFree, zX6_isShelf, zX6_orMissing, zX6_digitOf, zX6_hearSpeech, zX6_tallyIn, zX6_keepNode, zX6_nodeRefusal] : List zMt), zMok z := zcons qX6_ear (zcons qX6_readings (zcons qX6_write (zcons qX6_place (zcons qX6_doubt (zcons qX6_fewest (zcons qX6_walk (zcons qX6_go (zcons qX6_where (zcons qX6_lead (zcons qX6_glance (zcons qX6_changed (zcons qX6_exchanged (zcons qX6_count (zcons qX6_keep (zcons qX6_make (zcons qX6_element (zcons qX6_copy (zcons qX6_weight (zcons qX6_toss (zcons qX6_isLetter (zcons qX6_isStyle (zcons qX6_isStyleOrFree (zcons qX6_isShelf (zcons qX6_orMissing (zcons qX6_digitOf (zcons qX6_hearSpeech (zcons qX6_tallyIn (zcons qX6_keepNode (zcons qX6_nodeRefusal (znil))))))))))))))))))))))))))))))
theorem zms_ok4 : ∀ z ∈ ([zX7_init, zX7_in, zX7_isNode, zX7_isTwo, zX7_mayKeep, zX7_isStyle, zX7_sets, zX7_leaf, zX7_node, zX7_undo, zX7_means, zX7_isRight, zX7_look, zX7_areAlike, zX7_alike, zX7_has, zX7_times, zX7_keeps, zX7_digits, zX7_own, zX7_length, zX7_says, zX7_keepsIt, zX7_say, zX7_sayAll, zX7_words, zX7_word, zX7_sound, zX7_adds, zX7_grows] : List zMt), zMok z := zcons qX7_init (zcons qX7_in (zcons qX7_isNode (zcons qX7_isTwo (zcons qX7_mayKeep (zcons qX7_isStyle (zcons qX7_sets (zcons qX7_leaf (zcons qX7_node (zcons qX7_undo (zcons qX7_means (zcons qX7_isRight (zcons qX7_look (zcons qX7_areAlike (zcons qX7_alike (zcons qX7_has (zcons qX7_times (zcons qX7_keeps (zcons qX7_digits (zcons qX7_own (zcons qX7_length (zcons qX7_says (zcons qX7_keepsIt (zcons qX7_say (zcons qX7_sayAll (zcons qX7_words (zcons qX7_word (zcons qX7_sound (zcons qX7_adds (zcons qX7_grows (znil))))))))))))))))))))))))))))))
theorem zms_ok5 : ∀ z ∈ ([zX7_isSame, zX7_clear, zX7_hear, zX7_listen, zX7_hears, zX7_hush, zX7_ear, zX7_times_, zX7_plus, zX7_isLet, zX7_isNumber, zX7_within, zX7_reckons, zX7_counted, zX7_readings, zX7_makes, zX7_takes, zX7_takesTwo, zX7_write, zX7_copies, zX7_rank, zX7_inner, zX7_innerTwo, zX7_place, zX7_doubt, zX7_keepable, zX7_bits, zX7_fewest, zX7_isOnly, zX7_walk] : List zMt), zMok z := zcons qX7_isSame (zcons qX7_clear (zcons qX7_hear (zcons qX7_listen (zcons qX7_hears (zcons qX7_hush (zcons qX7_ear (zcons qX7_times_ (zcons qX7_plus (zcons qX7_isLet (zcons qX7_isNumber (zcons qX7_within (zcons qX7_reckons (zcons qX7_counted (zcons qX7_readings (zcons qX7_makes (zcons qX7_takes (zcons qX7_takesTwo (zcons qX7_write (zcons qX7_copies (zcons qX7_rank (zcons qX7_inner (zcons qX7_innerTwo (zcons qX7_place (zcons qX7_doubt (zcons qX7_keepable (zcons qX7_bits (zcons qX7_fewest (zcons qX7_isOnly (zcons qX7_walk (znil))))))))))))))))))))))))))))))
theorem zms_ok6 : ∀ z ∈ ([zX7_down, zX7_go, zX7_where, zX7_lead, zX7_glanced, zX7_glance, zX7_inside, zX7_difference, zX7_wholes, zX7_changed, zX7_exchanged, zX7_functions, zX7_count, zX7_isShelf, zX7_kinds, zX7_keep, zX7_make, zX7_element, zX7_copy, zX7_held, zX7_weight, zX7_toss, zJ6_bitCount_0f7a4, zJ9_max_7cf53, zJ9_min_7cf53, zJ9_min_f86c9] : List zMt), zMok z := zcons qX7_down (zcons qX7_go (zcons qX7_where (zcons qX7_lead (zcons qX7_glanced (zcons qX7_glance (zcons qX7_inside (zcons qX7_difference (zcons qX7_wholes (zcons qX7_changed (zcons qX7_exchanged (zcons qX7_functions (zcons qX7_count (zcons qX7_isShelf (zcons qX7_kinds (zcons qX7_keep (zcons qX7_make (zcons qX7_element (zcons qX7_copy (zcons qX7_held (zcons qX7_weight (zcons qX7_toss (zcons qJ6_bitCount_0f7a4 (zcons qJ9_max_7cf53 (zcons qJ9_min_7cf53 (zcons qJ9_min_f86c9 (znil))))))))))))))))))))))))))
theorem zms_ok : ∀ z ∈ zms, zMok z := by
  show ∀ z ∈ ([zX0_init, zX0_add, zX0_tally, zX0_waysOf, zX0_isBracketed, zX0_bareWays, zX0_kindByEnds, zX0_partFrom, zX0_partTo, zX0_numberIn, zX0_build, zX0_buildSpan, zX0_buildBare, zX0_buildPair, zX0_placeOf, zX0_placeIn, zX0_placeBare, zX0_placePair, zX1_isPair, zX1_isPrefix, zX1_hasBit, zX1_withBit, zX1_isDoubtful, zX2_init, zX2_has, zX2_isFull, zX2_sizeOf, zX2_partOf, zX2_put, zX2_addPart] : List zMt) ++ (([zX2_ownWords, zX2_firstAlike, zX2_shapeOf, zX2_isSameTop, zX2_isAlike, zX2_isRight, zX2_timesWithin, zX2_tallyOf, zX2_firstUnlike, zX2_differenceOf, zX2_exchangesOf, zX2_layKinds, zX2_difference, zX2_exchanges, zX2_layKindsFrom, zX3_init, zX3_drop, zX3_holdNode, zX3_holdNoughts, zX3_holdRow, zX3_hasRow, zX3_hasSpan, zX3_weighNode, zX4_init, zX4_isTooLong, zX4_sayInStyle, zX4_saySparingly, zX4_isSameAs, zX4_tell, zX4_tellBare] : List zMt) ++ (([zX4_isPartKept, zX4_addDigits, zX4_add, zX5_init, zX5_isBegun, zX5_top, zX5_here, zX5_beginAt, zX5_stepDown, zX5_stepUp, zX5_stepBeside, zX5_asNumber, zX5_follow, zX5_leadsSomewhere, zX6_init, zX6_leaf, zX6_node, zX6_undo, zX6_means, zX6_look, zX6_alike, zX6_times, zX6_keeps, zX6_words, zX6_word, zX6_sound, zX6_clear, zX6_hear, zX6_listen, zX6_hush] : List zMt) ++ (([zX6_ear, zX6_readings, zX6_write, zX6_place, zX6_doubt, zX6_fewest, zX6_walk, zX6_go, zX6_where, zX6_lead, zX6_glance, zX6_changed, zX6_exchanged, zX6_count, zX6_keep, zX6_make, zX6_element, zX6_copy, zX6_weight, zX6_toss, zX6_isLetter, zX6_isStyle, zX6_isStyleOrFree, zX6_isShelf, zX6_orMissing, zX6_digitOf, zX6_hearSpeech, zX6_tallyIn, zX6_keepNode, zX6_nodeRefusal] : List zMt) ++ (([zX7_init, zX7_in, zX7_isNode, zX7_isTwo, zX7_mayKeep, zX7_isStyle, zX7_sets, zX7_leaf, zX7_node, zX7_undo, zX7_means, zX7_isRight, zX7_look, zX7_areAlike, zX7_alike, zX7_has, zX7_times, zX7_keeps, zX7_digits, zX7_own, zX7_length, zX7_says, zX7_keepsIt, zX7_say, zX7_sayAll, zX7_words, zX7_word, zX7_sound, zX7_adds, zX7_grows] : List zMt) ++ (([zX7_isSame, zX7_clear, zX7_hear, zX7_listen, zX7_hears, zX7_hush, zX7_ear, zX7_times_, zX7_plus, zX7_isLet, zX7_isNumber, zX7_within, zX7_reckons, zX7_counted, zX7_readings, zX7_makes, zX7_takes, zX7_takesTwo, zX7_write, zX7_copies, zX7_rank, zX7_inner, zX7_innerTwo, zX7_place, zX7_doubt, zX7_keepable, zX7_bits, zX7_fewest, zX7_isOnly, zX7_walk] : List zMt) ++ (([zX7_down, zX7_go, zX7_where, zX7_lead, zX7_glanced, zX7_glance, zX7_inside, zX7_difference, zX7_wholes, zX7_changed, zX7_exchanged, zX7_functions, zX7_count, zX7_isShelf, zX7_kinds, zX7_keep, zX7_make, zX7_element, zX7_copy, zX7_held, zX7_weight, zX7_toss, zJ6_bitCount_0f7a4, zJ9_max_7cf53, zJ9_min_7cf53, zJ9_min_f86c9] : List zMt))))))), zMok z
  exact zapp zms_ok0 (zapp zms_ok1 (zapp zms_ok2 (zapp zms_ok3 (zapp zms_ok4 (zapp zms_ok5 (zms_ok6))))))
