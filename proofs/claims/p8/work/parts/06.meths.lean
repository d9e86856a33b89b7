theorem zmQ1 {x : Cond} (i : Nat) (h : tables_1_1[i]? = some x) (hg : goodWord x = true) : x ∈ zG := List.mem_filter.mpr ⟨List.mem_append_right _ (show x ∈ tables_1 from List.mem_append_left _ (List.mem_of_getElem? h)), hg⟩
theorem zmQ2 {x : Cond} (i : Nat) (h : tables_1_2[i]? = some x) (hg : goodWord x = true) : x ∈ zG := List.mem_filter.mpr ⟨List.mem_append_right _ (show x ∈ tables_1 from List.mem_append_right _ (List.mem_append_left _ (List.mem_of_getElem? h))), hg⟩
theorem zmQ3 {x : Cond} (i : Nat) (h : tables_1_3[i]? = some x) (hg : goodWord x = true) : x ∈ zG := List.mem_filter.mpr ⟨List.mem_append_right _ (show x ∈ tables_1 from List.mem_append_right _ (List.mem_append_right _ (List.mem_append_left _ (List.mem_of_getElem? h)))), hg⟩
theorem zmQ4 {x : Cond} (i : Nat) (h : tables_1_4[i]? = some x) (hg : goodWord x = true) : x ∈ zG := List.mem_filter.mpr ⟨List.mem_append_right _ (show x ∈ tables_1 from List.mem_append_right _ (List.mem_append_right _ (List.mem_append_right _ (List.mem_append_left _ (List.mem_of_getElem? h))))), hg⟩
theorem zmQ5 {x : Cond} (i : Nat) (h : tables_1_5[i]? = some x) (hg : goodWord x = true) : x ∈ zG := List.mem_filter.mpr ⟨List.mem_append_right _ (show x ∈ tables_1 from List.mem_append_right _ (List.mem_append_right _ (List.mem_append_right _ (List.mem_append_right _ (List.mem_append_left _ (List.mem_of_getElem? h)))))), hg⟩
theorem zmQ6 {x : Cond} (i : Nat) (h : tables_1_6[i]? = some x) (hg : goodWord x = true) : x ∈ zG := List.mem_filter.mpr ⟨List.mem_append_right _ (show x ∈ tables_1 from List.mem_append_right _ (List.mem_append_right _ (List.mem_append_right _ (List.mem_append_right _ (List.mem_append_right _ (List.mem_of_getElem? h)))))), hg⟩
abbrev zX0_init : zMt := (yX0_init, cX0_init, 1, none, true, 30, 700, 2, 0)
abbrev zX0_add : zMt := (yX0_add, cX0_add, 2, none, false, 0, 0, 0, 1)
abbrev zX0_tally : zMt := (yX0_tally, cX0_tally, 6, (some .long), false, 0, 0, 0, 3)
abbrev zX0_waysOf : zMt := (yX0_waysOf, cX0_waysOf, 6, (some .long), false, 0, 0, 0, 3)
abbrev zX0_isBracketed : zMt := (yX0_isBracketed, cX0_isBracketed, 3, (some .boolean), false, 0, 0, 0, 2)
abbrev zX0_bareWays : zMt := (yX0_bareWays, cX0_bareWays, 8, (some .long), false, 0, 0, 0, 3)
abbrev zX0_kindByEnds : zMt := (yX0_kindByEnds, cX0_kindByEnds, 5, (some .int), false, 0, 0, 0, 2)
abbrev zX0_partFrom : zMt := (yX0_partFrom, cX0_partFrom, 2, (some .int), false, 0, 0, 1, 2)
abbrev zX0_partTo : zMt := (yX0_partTo, cX0_partTo, 2, (some .int), false, 0, 0, 1, 2)
abbrev zX0_numberIn : zMt := (yX0_numberIn, cX0_numberIn, 6, (some .int), false, 0, 0, 0, 2)
abbrev zX0_build : zMt := (yX0_build, cX0_build, 4, (some .int), false, 0, 0, 0, 2)
abbrev zX0_buildSpan : zMt := (yX0_buildSpan, cX0_buildSpan, 14, (some .int), false, 0, 0, 0, 4)
abbrev zX0_buildBare : zMt := (yX0_buildBare, cX0_buildBare, 8, (some .int), false, 0, 0, 0, 5)
abbrev zX0_buildPair : zMt := (yX0_buildPair, cX0_buildPair, 16, (some .int), false, 0, 0, 0, 5)
abbrev zX0_placeOf : zMt := (yX0_placeOf, cX0_placeOf, 3, (some .long), false, 0, 0, 0, 2)
abbrev zX0_placeIn : zMt := (yX0_placeIn, cX0_placeIn, 10, (some .long), false, 0, 0, 0, 4)
abbrev zX0_placeBare : zMt := (yX0_placeBare, cX0_placeBare, 6, (some .long), false, 0, 0, 0, 4)
abbrev zX0_placePair : zMt := (yX0_placePair, cX0_placePair, 15, (some .long), false, 0, 0, 0, 4)
abbrev zX1_isPair : zMt := (yX1_isPair, cX1_isPair, 1, (some .boolean), false, 0, 0, 1, 1)
abbrev zX1_isPrefix : zMt := (yX1_isPrefix, cX1_isPrefix, 1, (some .boolean), false, 0, 0, 1, 1)
abbrev zX1_hasBit : zMt := (yX1_hasBit, cX1_hasBit, 2, (some .boolean), false, 0, 0, 1, 2)
abbrev zX1_withBit : zMt := (yX1_withBit, cX1_withBit, 3, (some .int), false, 0, 0, 1, 3)
abbrev zX1_isDoubtful : zMt := (yX1_isDoubtful, cX1_isDoubtful, 3, (some .boolean), false, 0, 0, 1, 3)
abbrev zX2_init : zMt := (yX2_init, cX2_init, 1, none, true, 20, 3000, 2, 0)
abbrev zX2_has : zMt := (yX2_has, cX2_has, 2, (some .boolean), false, 0, 0, 0, 1)
abbrev zX2_isFull : zMt := (yX2_isFull, cX2_isFull, 1, (some .boolean), false, 0, 0, 0, 0)
abbrev zX2_sizeOf : zMt := (yX2_sizeOf, cX2_sizeOf, 2, (some .int), false, 0, 0, 0, 1)
abbrev zX2_partOf : zMt := (yX2_partOf, cX2_partOf, 3, (some .int), false, 0, 0, 0, 2)
abbrev zX2_put : zMt := (yX2_put, cX2_put, 6, (some .int), false, 0, 0, 0, 4)
abbrev zX2_addPart : zMt := (yX2_addPart, cX2_addPart, 3, none, false, 0, 0, 0, 2)
abbrev zX2_ownWords : zMt := (yX2_ownWords, cX2_ownWords, 2, (some .int), false, 0, 0, 1, 2)
abbrev zX2_firstAlike : zMt := (yX2_firstAlike, cX2_firstAlike, 3, (some .int), false, 0, 0, 0, 1)
abbrev zX2_shapeOf : zMt := (yX2_shapeOf, cX2_shapeOf, 2, (some .int), false, 0, 0, 0, 1)
abbrev zX2_isSameTop : zMt := (yX2_isSameTop, cX2_isSameTop, 3, (some .boolean), false, 0, 0, 0, 2)
abbrev zX2_isAlike : zMt := (yX2_isAlike, cX2_isAlike, 3, (some .boolean), false, 0, 0, 0, 2)
abbrev zX2_isRight : zMt := (yX2_isRight, cX2_isRight, 3, (some .boolean), false, 0, 0, 0, 2)
abbrev zX2_timesWithin : zMt := (yX2_timesWithin, cX2_timesWithin, 4, (some .int), false, 0, 0, 0, 2)
abbrev zX2_tallyOf : zMt := (yX2_tallyOf, cX2_tallyOf, 2, (some .int), false, 0, 0, 0, 1)
abbrev zX2_firstUnlike : zMt := (yX2_firstUnlike, cX2_firstUnlike, 9, (some .int), false, 0, 0, 0, 2)
abbrev zX2_differenceOf : zMt := (yX2_differenceOf, cX2_differenceOf, 3, (some .int), false, 0, 0, 0, 2)
abbrev zX2_exchangesOf : zMt := (yX2_exchangesOf, cX2_exchangesOf, 3, (some .int), false, 0, 0, 0, 2)
abbrev zX2_layKinds : zMt := (yX2_layKinds, cX2_layKinds, 3, none, false, 0, 0, 0, 2)
abbrev zX2_difference : zMt := (yX2_difference, cX2_difference, 4, (some .int), false, 0, 0, 0, 3)
abbrev zX2_exchanges : zMt := (yX2_exchanges, cX2_exchanges, 4, (some .int), false, 0, 0, 0, 3)
abbrev zX2_layKindsFrom : zMt := (yX2_layKindsFrom, cX2_layKindsFrom, 6, (some .int), false, 0, 0, 0, 4)
abbrev zX3_init : zMt := (yX3_init, cX3_init, 1, none, true, 2, 100, 2, 0)
abbrev zX3_drop : zMt := (yX3_drop, cX3_drop, 1, none, false, 0, 0, 0, 0)
abbrev zX3_holdNode : zMt := (yX3_holdNode, cX3_holdNode, 4, none, false, 0, 0, 0, 3)
abbrev zX3_holdNoughts : zMt := (yX3_holdNoughts, cX3_holdNoughts, 4, none, false, 0, 0, 0, 2)
abbrev zX3_holdRow : zMt := (yX3_holdRow, cX3_holdRow, 5, none, false, 0, 0, 0, 3)
abbrev zX3_hasRow : zMt := (yX3_hasRow, cX3_hasRow, 1, (some .boolean), false, 0, 0, 0, 0)
abbrev zX3_hasSpan : zMt := (yX3_hasSpan, cX3_hasSpan, 3, (some .boolean), false, 0, 0, 0, 2)
abbrev zX3_weighNode : zMt := (yX3_weighNode, cX3_weighNode, 2, (some .int), false, 0, 0, 0, 0)
abbrev zX4_init : zMt := (yX4_init, cX4_init, 1, none, true, 2, 200, 2, 0)
abbrev zX4_isTooLong : zMt := (yX4_isTooLong, cX4_isTooLong, 1, (some .boolean), false, 0, 0, 0, 0)
abbrev zX4_sayInStyle : zMt := (yX4_sayInStyle, cX4_sayInStyle, 5, none, false, 0, 0, 0, 4)
abbrev zX4_saySparingly : zMt := (yX4_saySparingly, cX4_saySparingly, 3, none, false, 0, 0, 0, 2)
abbrev zX4_isSameAs : zMt := (yX4_isSameAs, cX4_isSameAs, 3, (some .boolean), false, 0, 0, 0, 1)
abbrev zX4_tell : zMt := (yX4_tell, cX4_tell, 5, none, false, 0, 0, 0, 4)
abbrev zX4_tellBare : zMt := (yX4_tellBare, cX4_tellBare, 8, none, false, 0, 0, 0, 3)
abbrev zX4_isPartKept : zMt := (yX4_isPartKept, cX4_isPartKept, 6, (some .boolean), false, 0, 0, 0, 4)
abbrev zX4_addDigits : zMt := (yX4_addDigits, cX4_addDigits, 4, none, false, 0, 0, 0, 1)
abbrev zX4_add : zMt := (yX4_add, cX4_add, 2, none, false, 0, 0, 0, 1)
abbrev zX5_init : zMt := (yX5_init, cX5_init, 1, none, true, 4, 200, 2, 0)
abbrev zX5_isBegun : zMt := (yX5_isBegun, cX5_isBegun, 1, (some .boolean), false, 0, 0, 0, 0)
abbrev zX5_top : zMt := (yX5_top, cX5_top, 1, (some .int), false, 0, 0, 0, 0)
abbrev zX5_here : zMt := (yX5_here, cX5_here, 1, (some .int), false, 0, 0, 0, 0)
abbrev zX5_beginAt : zMt := (yX5_beginAt, cX5_beginAt, 2, none, false, 0, 0, 0, 1)
abbrev zX5_stepDown : zMt := (yX5_stepDown, cX5_stepDown, 4, (some .boolean), false, 0, 0, 0, 2)
abbrev zX5_stepUp : zMt := (yX5_stepUp, cX5_stepUp, 1, (some .boolean), false, 0, 0, 0, 0)
abbrev zX5_stepBeside : zMt := (yX5_stepBeside, cX5_stepBeside, 4, (some .boolean), false, 0, 0, 0, 1)
abbrev zX5_asNumber : zMt := (yX5_asNumber, cX5_asNumber, 3, (some .int), false, 0, 0, 0, 0)
abbrev zX5_follow : zMt := (yX5_follow, cX5_follow, 5, (some .boolean), false, 0, 0, 0, 2)
abbrev zX5_leadsSomewhere : zMt := (yX5_leadsSomewhere, cX5_leadsSomewhere, 6, (some .boolean), false, 0, 0, 0, 2)
abbrev zX6_init : zMt := (yX6_init, cX6_init, 2, none, true, 200, 10000, 2, 0)
abbrev zX6_leaf : zMt := (yX6_leaf, cX6_leaf, 3, (some .int), false, 0, 0, 0, 2)
abbrev zX6_node : zMt := (yX6_node, cX6_node, 6, (some .int), false, 0, 0, 0, 3)
abbrev zX6_undo : zMt := (yX6_undo, cX6_undo, 1, (some .int), false, 0, 0, 0, 0)
abbrev zX6_means : zMt := (yX6_means, cX6_means, 4, (some .int), false, 0, 0, 0, 2)
abbrev zX6_look : zMt := (yX6_look, cX6_look, 3, (some .int), false, 0, 0, 0, 2)
abbrev zX6_alike : zMt := (yX6_alike, cX6_alike, 3, (some .int), false, 0, 0, 0, 2)
abbrev zX6_times : zMt := (yX6_times, cX6_times, 3, (some .int), false, 0, 0, 0, 2)
abbrev zX6_keeps : zMt := (yX6_keeps, cX6_keeps, 5, (some .int), false, 0, 0, 0, 3)
abbrev zX6_words : zMt := (yX6_words, cX6_words, 3, (some .int), false, 0, 0, 0, 2)
abbrev zX6_word : zMt := (yX6_word, cX6_word, 4, (some .int), false, 0, 0, 0, 3)
abbrev zX6_sound : zMt := (yX6_sound, cX6_sound, 4, (some .int), false, 0, 0, 0, 3)
abbrev zX6_clear : zMt := (yX6_clear, cX6_clear, 7, (some .int), false, 0, 0, 0, 2)
abbrev zX6_hear : zMt := (yX6_hear, cX6_hear, 4, (some .int), false, 0, 0, 0, 2)
abbrev zX6_listen : zMt := (yX6_listen, cX6_listen, 3, (some .int), false, 0, 0, 0, 2)
abbrev zX6_hush : zMt := (yX6_hush, cX6_hush, 2, (some .int), false, 0, 0, 0, 0)
abbrev zX6_ear : zMt := (yX6_ear, cX6_ear, 2, (some .int), false, 0, 0, 0, 1)
abbrev zX6_readings : zMt := (yX6_readings, cX6_readings, 2, (some .long), false, 0, 0, 0, 1)
abbrev zX6_write : zMt := (yX6_write, cX6_write, 4, (some .int), false, 0, 0, 0, 2)
abbrev zX6_place : zMt := (yX6_place, cX6_place, 5, (some .long), false, 0, 0, 0, 2)
abbrev zX6_doubt : zMt := (yX6_doubt, cX6_doubt, 10, (some .int), false, 0, 0, 0, 3)
abbrev zX6_fewest : zMt := (yX6_fewest, cX6_fewest, 2, (some .int), false, 0, 0, 0, 1)
abbrev zX6_walk : zMt := (yX6_walk, cX6_walk, 2, (some .int), false, 0, 0, 0, 1)
abbrev zX6_go : zMt := (yX6_go, cX6_go, 3, (some .int), false, 0, 0, 0, 1)
abbrev zX6_where : zMt := (yX6_where, cX6_where, 2, (some .int), false, 0, 0, 0, 1)
abbrev zX6_lead : zMt := (yX6_lead, cX6_lead, 2, (some .int), false, 0, 0, 0, 1)
abbrev zX6_glance : zMt := (yX6_glance, cX6_glance, 3, (some .int), false, 0, 0, 0, 2)
abbrev zX6_changed : zMt := (yX6_changed, cX6_changed, 3, (some .int), false, 0, 0, 0, 2)
abbrev zX6_exchanged : zMt := (yX6_exchanged, cX6_exchanged, 3, (some .int), false, 0, 0, 0, 2)
abbrev zX6_count : zMt := (yX6_count, cX6_count, 2, (some .int), false, 0, 0, 0, 1)
abbrev zX6_keep : zMt := (yX6_keep, cX6_keep, 4, (some .int), false, 0, 0, 0, 3)
abbrev zX6_make : zMt := (yX6_make, cX6_make, 4, (some .int), false, 0, 0, 0, 3)
abbrev zX6_element : zMt := (yX6_element, cX6_element, 4, (some .long), false, 0, 0, 0, 2)
abbrev zX6_copy : zMt := (yX6_copy, cX6_copy, 8, (some .int), false, 0, 0, 0, 5)
abbrev zX6_weight : zMt := (yX6_weight, cX6_weight, 3, (some .int), false, 0, 0, 0, 1)
abbrev zX6_toss : zMt := (yX6_toss, cX6_toss, 3, (some .int), false, 0, 0, 0, 1)
abbrev zX6_isLetter : zMt := (yX6_isLetter, cX6_isLetter, 1, (some .boolean), false, 0, 0, 1, 1)
abbrev zX6_isStyle : zMt := (yX6_isStyle, cX6_isStyle, 1, (some .boolean), false, 0, 0, 1, 1)
abbrev zX6_isStyleOrFree : zMt := (yX6_isStyleOrFree, cX6_isStyleOrFree, 1, (some .boolean), false, 0, 0, 1, 1)
abbrev zX6_isShelf : zMt := (yX6_isShelf, cX6_isShelf, 1, (some .boolean), false, 0, 0, 1, 1)
abbrev zX6_orMissing : zMt := (yX6_orMissing, cX6_orMissing, 1, (some .int), false, 0, 0, 1, 1)
abbrev zX6_digitOf : zMt := (yX6_digitOf, cX6_digitOf, 2, (some .int), false, 0, 0, 1, 2)
abbrev zX6_hearSpeech : zMt := (yX6_hearSpeech, cX6_hearSpeech, 2, (some .int), false, 0, 0, 0, 0)
abbrev zX6_tallyIn : zMt := (yX6_tallyIn, cX6_tallyIn, 4, (some .long), false, 0, 0, 0, 1)
abbrev zX6_keepNode : zMt := (yX6_keepNode, cX6_keepNode, 4, (some .int), false, 0, 0, 0, 3)
abbrev zX6_nodeRefusal : zMt := (yX6_nodeRefusal, cX6_nodeRefusal, 2, (some .int), false, 0, 0, 0, 1)
abbrev zX7_init : zMt := (yX7_init, cX7_init, 2, none, true, 100, 40000, 2, 0)
abbrev zX7_in : zMt := (yX7_in, cX7_in, 6, (some .boolean), false, 0, 0, 1, 3)
abbrev zX7_isNode : zMt := (yX7_isNode, cX7_isNode, 2, (some .boolean), false, 0, 0, 0, 1)
abbrev zX7_isTwo : zMt := (yX7_isTwo, cX7_isTwo, 1, (some .boolean), false, 0, 0, 1, 1)
abbrev zX7_mayKeep : zMt := (yX7_mayKeep, cX7_mayKeep, 1, (some .boolean), false, 0, 0, 1, 1)
abbrev zX7_isStyle : zMt := (yX7_isStyle, cX7_isStyle, 1, (some .boolean), false, 0, 0, 1, 1)
abbrev zX7_sets : zMt := (yX7_sets, cX7_sets, 8, none, false, 0, 0, 0, 5)
abbrev zX7_leaf : zMt := (yX7_leaf, cX7_leaf, 3, (some .int), false, 0, 0, 0, 2)
abbrev zX7_node : zMt := (yX7_node, cX7_node, 5, (some .int), false, 0, 0, 0, 3)
abbrev zX7_undo : zMt := (yX7_undo, cX7_undo, 1, (some .int), false, 0, 0, 0, 0)
abbrev zX7_means : zMt := (yX7_means, cX7_means, 4, (some .int), false, 0, 0, 0, 2)
abbrev zX7_isRight : zMt := (yX7_isRight, cX7_isRight, 3, (some .boolean), false, 0, 0, 0, 1)
abbrev zX7_look : zMt := (yX7_look, cX7_look, 3, (some .int), false, 0, 0, 0, 2)
abbrev zX7_areAlike : zMt := (yX7_areAlike, cX7_areAlike, 3, (some .boolean), false, 0, 0, 0, 2)
abbrev zX7_alike : zMt := (yX7_alike, cX7_alike, 3, (some .int), false, 0, 0, 0, 2)
abbrev zX7_has : zMt := (yX7_has, cX7_has, 3, (some .int), false, 0, 0, 0, 2)
abbrev zX7_times : zMt := (yX7_times, cX7_times, 3, (some .int), false, 0, 0, 0, 2)
abbrev zX7_keeps : zMt := (yX7_keeps, cX7_keeps, 5, (some .int), false, 0, 0, 0, 3)
abbrev zX7_digits : zMt := (yX7_digits, cX7_digits, 1, (some .int), false, 0, 0, 1, 1)
abbrev zX7_own : zMt := (yX7_own, cX7_own, 2, (some .int), false, 0, 0, 0, 1)
abbrev zX7_length : zMt := (yX7_length, cX7_length, 3, (some .int), false, 0, 0, 0, 2)
abbrev zX7_says : zMt := (yX7_says, cX7_says, 2, none, false, 0, 0, 0, 1)
abbrev zX7_keepsIt : zMt := (yX7_keepsIt, cX7_keepsIt, 3, (some .boolean), false, 0, 0, 0, 2)
abbrev zX7_say : zMt := (yX7_say, cX7_say, 6, none, false, 0, 0, 0, 2)
abbrev zX7_sayAll : zMt := (yX7_sayAll, cX7_sayAll, 3, none, false, 0, 0, 0, 2)
abbrev zX7_words : zMt := (yX7_words, cX7_words, 4, (some .int), false, 0, 0, 0, 2)
abbrev zX7_word : zMt := (yX7_word, cX7_word, 5, (some .int), false, 0, 0, 0, 3)
abbrev zX7_sound : zMt := (yX7_sound, cX7_sound, 8, (some .int), false, 0, 0, 0, 3)
abbrev zX7_adds : zMt := (yX7_adds, cX7_adds, 5, none, false, 0, 0, 0, 4)
abbrev zX7_grows : zMt := (yX7_grows, cX7_grows, 6, none, false, 0, 0, 0, 1)
abbrev zX7_isSame : zMt := (yX7_isSame, cX7_isSame, 5, (some .boolean), false, 0, 0, 0, 2)
abbrev zX7_clear : zMt := (yX7_clear, cX7_clear, 5, (some .int), false, 0, 0, 0, 2)
abbrev zX7_hear : zMt := (yX7_hear, cX7_hear, 4, (some .int), false, 0, 0, 0, 2)
abbrev zX7_listen : zMt := (yX7_listen, cX7_listen, 4, (some .int), false, 0, 0, 0, 2)
abbrev zX7_hears : zMt := (yX7_hears, cX7_hears, 2, none, false, 0, 0, 0, 0)
abbrev zX7_hush : zMt := (yX7_hush, cX7_hush, 2, (some .int), false, 0, 0, 0, 0)
abbrev zX7_ear : zMt := (yX7_ear, cX7_ear, 2, (some .int), false, 0, 0, 0, 1)
abbrev zX7_times_ : zMt := (yX7_times_, cX7_times_, 4, (some .long), false, 0, 0, 1, 2)
abbrev zX7_plus : zMt := (yX7_plus, cX7_plus, 4, (some .long), false, 0, 0, 1, 2)
abbrev zX7_isLet : zMt := (yX7_isLet, cX7_isLet, 3, (some .boolean), false, 0, 0, 0, 2)
abbrev zX7_isNumber : zMt := (yX7_isNumber, cX7_isNumber, 5, (some .boolean), false, 0, 0, 0, 2)
abbrev zX7_within : zMt := (yX7_within, cX7_within, 7, (some .long), false, 0, 0, 0, 3)
abbrev zX7_reckons : zMt := (yX7_reckons, cX7_reckons, 12, none, false, 0, 0, 0, 1)
abbrev zX7_counted : zMt := (yX7_counted, cX7_counted, 2, (some .long), false, 0, 0, 0, 1)
abbrev zX7_readings : zMt := (yX7_readings, cX7_readings, 2, (some .long), false, 0, 0, 0, 1)
abbrev zX7_makes : zMt := (yX7_makes, cX7_makes, 5, (some .int), false, 0, 0, 0, 4)
abbrev zX7_takes : zMt := (yX7_takes, cX7_takes, 12, (some .int), false, 0, 0, 0, 3)
abbrev zX7_takesTwo : zMt := (yX7_takesTwo, cX7_takesTwo, 12, (some .int), false, 0, 0, 0, 4)
abbrev zX7_write : zMt := (yX7_write, cX7_write, 5, (some .int), false, 0, 0, 0, 2)
abbrev zX7_copies : zMt := (yX7_copies, cX7_copies, 4, (some .int), false, 0, 0, 0, 1)
abbrev zX7_rank : zMt := (yX7_rank, cX7_rank, 8, (some .long), false, 0, 0, 0, 3)
abbrev zX7_inner : zMt := (yX7_inner, cX7_inner, 6, (some .long), false, 0, 0, 0, 3)
abbrev zX7_innerTwo : zMt := (yX7_innerTwo, cX7_innerTwo, 13, (some .long), false, 0, 0, 0, 3)
abbrev zX7_place : zMt := (yX7_place, cX7_place, 5, (some .long), false, 0, 0, 0, 2)
abbrev zX7_doubt : zMt := (yX7_doubt, cX7_doubt, 11, (some .int), false, 0, 0, 0, 3)
abbrev zX7_keepable : zMt := (yX7_keepable, cX7_keepable, 2, (some .int), false, 0, 0, 0, 1)
abbrev zX7_bits : zMt := (yX7_bits, cX7_bits, 3, (some .int), false, 0, 0, 1, 1)
abbrev zX7_fewest : zMt := (yX7_fewest, cX7_fewest, 6, (some .int), false, 0, 0, 0, 1)
abbrev zX7_isOnly : zMt := (yX7_isOnly, cX7_isOnly, 4, (some .boolean), false, 0, 0, 0, 3)
abbrev zX7_walk : zMt := (yX7_walk, cX7_walk, 2, (some .int), false, 0, 0, 0, 1)
abbrev zX7_down : zMt := (yX7_down, cX7_down, 3, (some .boolean), false, 0, 0, 0, 1)
abbrev zX7_go : zMt := (yX7_go, cX7_go, 3, (some .int), false, 0, 0, 0, 1)
abbrev zX7_where : zMt := (yX7_where, cX7_where, 4, (some .int), false, 0, 0, 0, 1)
abbrev zX7_lead : zMt := (yX7_lead, cX7_lead, 6, (some .int), false, 0, 0, 0, 1)
abbrev zX7_glanced : zMt := (yX7_glanced, cX7_glanced, 4, (some .int), false, 0, 0, 0, 3)
abbrev zX7_glance : zMt := (yX7_glance, cX7_glance, 4, (some .int), false, 0, 0, 0, 2)
abbrev zX7_inside : zMt := (yX7_inside, cX7_inside, 4, (some .int), false, 0, 0, 0, 2)
abbrev zX7_difference : zMt := (yX7_difference, cX7_difference, 5, (some .int), false, 0, 0, 0, 2)
abbrev zX7_wholes : zMt := (yX7_wholes, cX7_wholes, 3, (some .int), false, 0, 0, 0, 2)
abbrev zX7_changed : zMt := (yX7_changed, cX7_changed, 3, (some .int), false, 0, 0, 0, 2)
abbrev zX7_exchanged : zMt := (yX7_exchanged, cX7_exchanged, 3, (some .int), false, 0, 0, 0, 2)
abbrev zX7_functions : zMt := (yX7_functions, cX7_functions, 3, (some .int), false, 0, 0, 0, 0)
abbrev zX7_count : zMt := (yX7_count, cX7_count, 2, (some .int), false, 0, 0, 0, 1)
abbrev zX7_isShelf : zMt := (yX7_isShelf, cX7_isShelf, 1, (some .boolean), false, 0, 0, 1, 1)
abbrev zX7_kinds : zMt := (yX7_kinds, cX7_kinds, 3, none, false, 0, 0, 0, 2)
abbrev zX7_keep : zMt := (yX7_keep, cX7_keep, 6, (some .int), false, 0, 0, 0, 3)
abbrev zX7_make : zMt := (yX7_make, cX7_make, 5, (some .int), false, 0, 0, 0, 3)
abbrev zX7_element : zMt := (yX7_element, cX7_element, 3, (some .long), false, 0, 0, 0, 2)
abbrev zX7_copy : zMt := (yX7_copy, cX7_copy, 7, (some .int), false, 0, 0, 0, 5)
abbrev zX7_held : zMt := (yX7_held, cX7_held, 2, (some .int), false, 0, 0, 0, 1)
abbrev zX7_weight : zMt := (yX7_weight, cX7_weight, 4, (some .int), false, 0, 0, 0, 1)
abbrev zX7_toss : zMt := (yX7_toss, cX7_toss, 3, (some .int), false, 0, 0, 0, 1)
abbrev zJ6_bitCount_0f7a4 : zMt := (yJ6_bitCount_0f7a4, cJ6_bitCount_0f7a4, 1, (some .int), false, 0, 0, 1, 1)
abbrev zJ9_max_7cf53 : zMt := (yJ9_max_7cf53, cJ9_max_7cf53, 2, (some .int), false, 0, 0, 1, 2)
abbrev zJ9_min_7cf53 : zMt := (yJ9_min_7cf53, cJ9_min_7cf53, 2, (some .int), false, 0, 0, 1, 2)
abbrev zJ9_min_f86c9 : zMt := (yJ9_min_f86c9, cJ9_min_f86c9, 4, (some .long), false, 0, 0, 1, 2)
def zms : List zMt := [zX0_init, zX0_add, zX0_tally, zX0_waysOf, zX0_isBracketed, zX0_bareWays, zX0_kindByEnds, zX0_partFrom, zX0_partTo, zX0_numberIn, zX0_build, zX0_buildSpan, zX0_buildBare, zX0_buildPair, zX0_placeOf, zX0_placeIn, zX0_placeBare, zX0_placePair, zX1_isPair, zX1_isPrefix, zX1_hasBit, zX1_withBit, zX1_isDoubtful, zX2_init, zX2_has, zX2_isFull, zX2_sizeOf, zX2_partOf, zX2_put, zX2_addPart, zX2_ownWords, zX2_firstAlike, zX2_shapeOf, zX2_isSameTop, zX2_isAlike, zX2_isRight, zX2_timesWithin, zX2_tallyOf, zX2_firstUnlike, zX2_differenceOf, zX2_exchangesOf, zX2_layKinds, zX2_difference, zX2_exchanges, zX2_layKindsFrom, zX3_init, zX3_drop, zX3_holdNode, zX3_holdNoughts, zX3_holdRow, zX3_hasRow, zX3_hasSpan, zX3_weighNode, zX4_init, zX4_isTooLong, zX4_sayInStyle, zX4_saySparingly, zX4_isSameAs, zX4_tell, zX4_tellBare, zX4_isPartKept, zX4_addDigits, zX4_add, zX5_init, zX5_isBegun, zX5_top, zX5_here, zX5_beginAt, zX5_stepDown, zX5_stepUp, zX5_stepBeside, zX5_asNumber, zX5_follow, zX5_leadsSomewhere, zX6_init, zX6_leaf, zX6_node, zX6_undo, zX6_means, zX6_look, zX6_alike, zX6_times, zX6_keeps, zX6_words, zX6_word, zX6_sound, zX6_clear, zX6_hear, zX6_listen, zX6_hush, zX6_ear, zX6_readings, zX6_write, zX6_place, zX6_doubt, zX6_fewest, zX6_walk, zX6_go, zX6_where, zX6_lead, zX6_glance, zX6_changed, zX6_exchanged, zX6_count, zX6_keep, zX6_make, zX6_element, zX6_copy, zX6_weight, zX6_toss, zX6_isLetter, zX6_isStyle, zX6_isStyleOrFree, zX6_isShelf, zX6_orMissing, zX6_digitOf, zX6_hearSpeech, zX6_tallyIn, zX6_keepNode, zX6_nodeRefusal, zX7_init, zX7_in, zX7_isNode, zX7_isTwo, zX7_mayKeep, zX7_isStyle, zX7_sets, zX7_leaf, zX7_node, zX7_undo, zX7_means, zX7_isRight, zX7_look, zX7_areAlike, zX7_alike, zX7_has, zX7_times, zX7_keeps, zX7_digits, zX7_own, zX7_length, zX7_says, zX7_keepsIt, zX7_say, zX7_sayAll, zX7_words, zX7_word, zX7_sound, zX7_adds, zX7_grows, zX7_isSame, zX7_clear, zX7_hear, zX7_listen, zX7_hears, zX7_hush, zX7_ear, zX7_times_, zX7_plus, zX7_isLet, zX7_isNumber, zX7_within, zX7_reckons, zX7_counted, zX7_readings, zX7_makes, zX7_takes, zX7_takesTwo, zX7_write, zX7_copies, zX7_rank, zX7_inner, zX7_innerTwo, zX7_place, zX7_doubt, zX7_keepable, zX7_bits, zX7_fewest, zX7_isOnly, zX7_walk, zX7_down, zX7_go, zX7_where, zX7_lead, zX7_glanced, zX7_glance, zX7_inside, zX7_difference, zX7_wholes, zX7_changed, zX7_exchanged, zX7_functions, zX7_count, zX7_isShelf, zX7_kinds, zX7_keep, zX7_make, zX7_element, zX7_copy, zX7_held, zX7_weight, zX7_toss, zJ6_bitCount_0f7a4, zJ9_max_7cf53, zJ9_min_7cf53, zJ9_min_f86c9]
set_option maxRecDepth 100000 in
theorem qX0_init : zMok zX0_init := ⟨zmQ1 114 rfl rfl, ⟨by decide +kernel, by decide +kernel, by decide +kernel⟩, zmQ1 4 rfl rfl, (fun h => by cases h), (fun h => by cases h), fun _ => ⟨zmQ1 113 rfl rfl, rfl, rfl⟩⟩
set_option maxRecDepth 100000 in
theorem qX0_add : zMok zX0_add := ⟨zmQ2 162 rfl rfl, ⟨by decide +kernel, by decide +kernel, by decide +kernel⟩, zmQ1 4 rfl rfl, fun _ => ⟨zmQ2 160 rfl rfl, zmQ2 161 rfl rfl⟩, (fun h => by cases h), (fun h => by cases h)⟩
set_option maxRecDepth 100000 in
theorem qX0_tally : zMok zX0_tally := ⟨zmQ2 193 rfl rfl, ⟨by decide +kernel, by decide +kernel, by decide +kernel⟩, zmQ1 4 rfl rfl, fun _ => ⟨zmQ2 191 rfl rfl, zmQ2 192 rfl rfl⟩, (fun h => by cases h), (fun h => by cases h)⟩
set_option maxRecDepth 100000 in
theorem qX0_waysOf : zMok zX0_waysOf := ⟨zmQ2 197 rfl rfl, ⟨by decide +kernel, by decide +kernel, by decide +kernel⟩, zmQ1 4 rfl rfl, fun _ => ⟨zmQ2 196 rfl rfl, zmemS 11 rfl rfl⟩, (fun h => by cases h), (fun h => by cases h)⟩
set_option maxRecDepth 100000 in
theorem qX0_isBracketed : zMok zX0_isBracketed := ⟨zmQ2 221 rfl rfl, ⟨by decide +kernel, by decide +kernel, by decide +kernel⟩, zmQ1 4 rfl rfl, fun _ => ⟨zmQ2 220 rfl rfl, zmemS 15 rfl rfl⟩, (fun h => by cases h), (fun h => by cases h)⟩
set_option maxRecDepth 100000 in
theorem qX0_bareWays : zMok zX0_bareWays := ⟨zmQ2 201 rfl rfl, ⟨by decide +kernel, by decide +kernel, by decide +kernel⟩, zmQ1 4 rfl rfl, fun _ => ⟨zmQ2 200 rfl rfl, zmemS 12 rfl rfl⟩, (fun h => by cases h), (fun h => by cases h)⟩
set_option maxRecDepth 100000 in
theorem qX0_kindByEnds : zMok zX0_kindByEnds := ⟨zmQ2 207 rfl rfl, ⟨by decide +kernel, by decide +kernel, by decide +kernel⟩, zmQ1 4 rfl rfl, fun _ => ⟨zmQ2 206 rfl rfl, zmemS 13 rfl rfl⟩, (fun h => by cases h), (fun h => by cases h)⟩
set_option maxRecDepth 100000 in
theorem qX0_partFrom : zMok zX0_partFrom := ⟨zmQ2 214 rfl rfl, ⟨by decide +kernel, by decide +kernel, by decide +kernel⟩, zmQ1 4 rfl rfl, (fun h => by cases h), fun _ => zmQ2 213 rfl rfl, (fun h => by cases h)⟩
set_option maxRecDepth 100000 in
theorem qX0_partTo : zMok zX0_partTo := ⟨zmQ2 217 rfl rfl, ⟨by decide +kernel, by decide +kernel, by decide +kernel⟩, zmQ1 4 rfl rfl, (fun h => by cases h), fun _ => zmQ2 216 rfl rfl, (fun h => by cases h)⟩
set_option maxRecDepth 100000 in
theorem qX0_numberIn : zMok zX0_numberIn := ⟨zmQ2 211 rfl rfl, ⟨by decide +kernel, by decide +kernel, by decide +kernel⟩, zmQ1 4 rfl rfl, fun _ => ⟨zmQ2 210 rfl rfl, zmemS 14 rfl rfl⟩, (fun h => by cases h), (fun h => by cases h)⟩
set_option maxRecDepth 100000 in
theorem qX0_build : zMok zX0_build := ⟨zmQ2 229 rfl rfl, ⟨by decide +kernel, by decide +kernel, by decide +kernel⟩, zmQ1 4 rfl rfl, fun _ => ⟨zmQ2 227 rfl rfl, zmQ2 228 rfl rfl⟩, (fun h => by cases h), (fun h => by cases h)⟩
set_option maxRecDepth 100000 in
theorem qX0_buildSpan : zMok zX0_buildSpan := ⟨zmQ2 233 rfl rfl, ⟨by decide +kernel, by decide +kernel, by decide +kernel⟩, zmQ1 4 rfl rfl, fun _ => ⟨zmQ2 232 rfl rfl, zmemS 16 rfl rfl⟩, (fun h => by cases h), (fun h => by cases h)⟩
set_option maxRecDepth 100000 in
theorem qX0_buildBare : zMok zX0_buildBare := ⟨zmQ2 237 rfl rfl, ⟨by decide +kernel, by decide +kernel, by decide +kernel⟩, zmQ1 4 rfl rfl, fun _ => ⟨zmQ2 236 rfl rfl, zmemS 17 rfl rfl⟩, (fun h => by cases h), (fun h => by cases h)⟩
set_option maxRecDepth 100000 in
theorem qX0_buildPair : zMok zX0_buildPair := ⟨zmQ3 1 rfl rfl, ⟨by decide +kernel, by decide +kernel, by decide +kernel⟩, zmQ1 4 rfl rfl, fun _ => ⟨zmQ3 0 rfl rfl, zmemS 18 rfl rfl⟩, (fun h => by cases h), (fun h => by cases h)⟩
set_option maxRecDepth 100000 in
theorem qX0_placeOf : zMok zX0_placeOf := ⟨zmQ3 12 rfl rfl, ⟨by decide +kernel, by decide +kernel, by decide +kernel⟩, zmQ1 4 rfl rfl, fun _ => ⟨zmQ3 10 rfl rfl, zmQ3 11 rfl rfl⟩, (fun h => by cases h), (fun h => by cases h)⟩
set_option maxRecDepth 100000 in
theorem qX0_placeIn : zMok zX0_placeIn := ⟨zmQ3 16 rfl rfl, ⟨by decide +kernel, by decide +kernel, by decide +kernel⟩, zmQ1 4 rfl rfl, fun _ => ⟨zmQ3 15 rfl rfl, zmemS 19 rfl rfl⟩, (fun h => by cases h), (fun h => by cases h)⟩
set_option maxRecDepth 100000 in
theorem qX0_placeBare : zMok zX0_placeBare := ⟨zmQ3 22 rfl rfl, ⟨by decide +kernel, by decide +kernel, by decide +kernel⟩, zmQ1 4 rfl rfl, fun _ => ⟨zmQ3 21 rfl rfl, zmemS 20 rfl rfl⟩, (fun h => by cases h), (fun h => by cases h)⟩
set_option maxRecDepth 100000 in
theorem qX0_placePair : zMok zX0_placePair := ⟨zmQ3 26 rfl rfl, ⟨by decide +kernel, by decide +kernel, by decide +kernel⟩, zmQ1 4 rfl rfl, fun _ => ⟨zmQ3 25 rfl rfl, zmemS 21 rfl rfl⟩, (fun h => by cases h), (fun h => by cases h)⟩
set_option maxRecDepth 100000 in
theorem qX1_isPair : zMok zX1_isPair := ⟨zmQ2 26 rfl rfl, ⟨by decide +kernel, by decide +kernel, by decide +kernel⟩, zmQ1 8 rfl rfl, (fun h => by cases h), fun _ => zmQ2 25 rfl rfl, (fun h => by cases h)⟩
set_option maxRecDepth 100000 in
theorem qX1_isPrefix : zMok zX1_isPrefix := ⟨zmQ2 125 rfl rfl, ⟨by decide +kernel, by decide +kernel, by decide +kernel⟩, zmQ1 8 rfl rfl, (fun h => by cases h), fun _ => zmQ2 124 rfl rfl, (fun h => by cases h)⟩
set_option maxRecDepth 100000 in
theorem qX1_hasBit : zMok zX1_hasBit := ⟨zmQ1 235 rfl rfl, ⟨by decide +kernel, by decide +kernel, by decide +kernel⟩, zmQ1 8 rfl rfl, (fun h => by cases h), fun _ => zmQ1 234 rfl rfl, (fun h => by cases h)⟩
set_option maxRecDepth 100000 in
theorem qX1_withBit : zMok zX1_withBit := ⟨zmQ2 52 rfl rfl, ⟨by decide +kernel, by decide +kernel, by decide +kernel⟩, zmQ1 8 rfl rfl, (fun h => by cases h), fun _ => zmQ2 51 rfl rfl, (fun h => by cases h)⟩
set_option maxRecDepth 100000 in
theorem qX1_isDoubtful : zMok zX1_isDoubtful := ⟨zmQ2 121 rfl rfl, ⟨by decide +kernel, by decide +kernel, by decide +kernel⟩, zmQ1 8 rfl rfl, (fun h => by cases h), fun _ => zmQ2 120 rfl rfl, (fun h => by cases h)⟩
set_option maxRecDepth 100000 in
theorem qX2_init : zMok zX2_init := ⟨zmQ1 29 rfl rfl, ⟨by decide +kernel, by decide +kernel, by decide +kernel⟩, zmQ1 2 rfl rfl, (fun h => by cases h), (fun h => by cases h), fun _ => ⟨zmQ1 28 rfl rfl, rfl, rfl⟩⟩
set_option maxRecDepth 100000 in
theorem qX2_has : zMok zX2_has := ⟨zmQ2 3 rfl rfl, ⟨by decide +kernel, by decide +kernel, by decide +kernel⟩, zmQ1 2 rfl rfl, fun _ => ⟨zmQ2 1 rfl rfl, zmQ2 2 rfl rfl⟩, (fun h => by cases h), (fun h => by cases h)⟩
set_option maxRecDepth 100000 in
theorem qX2_isFull : zMok zX2_isFull := ⟨zmQ1 224 rfl rfl, ⟨by decide +kernel, by decide +kernel, by decide +kernel⟩, zmQ1 2 rfl rfl, fun _ => ⟨zmQ1 222 rfl rfl, zmQ1 223 rfl rfl⟩, (fun h => by cases h), (fun h => by cases h)⟩
set_option maxRecDepth 100000 in
theorem qX2_sizeOf : zMok zX2_sizeOf := ⟨zmQ2 33 rfl rfl, ⟨by decide +kernel, by decide +kernel, by decide +kernel⟩, zmQ1 2 rfl rfl, fun _ => ⟨zmQ2 31 rfl rfl, zmQ2 32 rfl rfl⟩, (fun h => by cases h), (fun h => by cases h)⟩
set_option maxRecDepth 100000 in
theorem qX2_partOf : zMok zX2_partOf := ⟨zmQ3 38 rfl rfl, ⟨by decide +kernel, by decide +kernel, by decide +kernel⟩, zmQ1 2 rfl rfl, fun _ => ⟨zmQ3 36 rfl rfl, zmQ3 37 rfl rfl⟩, (fun h => by cases h), (fun h => by cases h)⟩
set_option maxRecDepth 100000 in
theorem qX2_put : zMok zX2_put := ⟨zmQ1 228 rfl rfl, ⟨by decide +kernel, by decide +kernel, by decide +kernel⟩, zmQ1 2 rfl rfl, fun _ => ⟨zmQ1 226 rfl rfl, zmQ1 227 rfl rfl⟩, (fun h => by cases h), (fun h => by cases h)⟩
set_option maxRecDepth 100000 in
theorem qX2_addPart : zMok zX2_addPart := ⟨zmQ1 239 rfl rfl, ⟨by decide +kernel, by decide +kernel, by decide +kernel⟩, zmQ1 2 rfl rfl, fun _ => ⟨zmQ1 238 rfl rfl, zmemS 0 rfl rfl⟩, (fun h => by cases h), (fun h => by cases h)⟩
set_option maxRecDepth 100000 in
theorem qX2_ownWords : zMok zX2_ownWords := ⟨zmQ1 232 rfl rfl, ⟨by decide +kernel, by decide +kernel, by decide +kernel⟩, zmQ1 2 rfl rfl, (fun h => by cases h), fun _ => zmQ1 231 rfl rfl, (fun h => by cases h)⟩
set_option maxRecDepth 100000 in
theorem qX2_firstAlike : zMok zX2_firstAlike := ⟨zmQ2 10 rfl rfl, ⟨by decide +kernel, by decide +kernel, by decide +kernel⟩, zmQ1 2 rfl rfl, fun _ => ⟨zmQ2 9 rfl rfl, zmemS 1 rfl rfl⟩, (fun h => by cases h), (fun h => by cases h)⟩
set_option maxRecDepth 100000 in
theorem qX2_shapeOf : zMok zX2_shapeOf := ⟨zmQ2 18 rfl rfl, ⟨by decide +kernel, by decide +kernel, by decide +kernel⟩, zmQ1 2 rfl rfl, fun _ => ⟨zmQ2 17 rfl rfl, zmemS 2 rfl rfl⟩, (fun h => by cases h), (fun h => by cases h)⟩
set_option maxRecDepth 100000 in
theorem qX2_isSameTop : zMok zX2_isSameTop := ⟨zmQ2 14 rfl rfl, ⟨by decide +kernel, by decide +kernel, by decide +kernel⟩, zmQ1 2 rfl rfl, fun _ => ⟨zmQ2 12 rfl rfl, zmQ2 13 rfl rfl⟩, (fun h => by cases h), (fun h => by cases h)⟩
set_option maxRecDepth 100000 in
theorem qX2_isAlike : zMok zX2_isAlike := ⟨zmQ2 71 rfl rfl, ⟨by decide +kernel, by decide +kernel, by decide +kernel⟩, zmQ1 2 rfl rfl, fun _ => ⟨zmQ2 69 rfl rfl, zmQ2 70 rfl rfl⟩, (fun h => by cases h), (fun h => by cases h)⟩
set_option maxRecDepth 100000 in
theorem qX2_isRight : zMok zX2_isRight := ⟨zmQ2 63 rfl rfl, ⟨by decide +kernel, by decide +kernel, by decide +kernel⟩, zmQ1 2 rfl rfl, fun _ => ⟨zmQ2 61 rfl rfl, zmQ2 62 rfl rfl⟩, (fun h => by cases h), (fun h => by cases h)⟩
set_option maxRecDepth 100000 in
theorem qX2_timesWithin : zMok zX2_timesWithin := ⟨zmQ2 79 rfl rfl, ⟨by decide +kernel, by decide +kernel, by decide +kernel⟩, zmQ1 2 rfl rfl, fun _ => ⟨zmQ2 77 rfl rfl, zmQ2 78 rfl rfl⟩, (fun h => by cases h), (fun h => by cases h)⟩
set_option maxRecDepth 100000 in
theorem qX2_tallyOf : zMok zX2_tallyOf := ⟨zmQ2 84 rfl rfl, ⟨by decide +kernel, by decide +kernel, by decide +kernel⟩, zmQ1 2 rfl rfl, fun _ => ⟨zmQ2 83 rfl rfl, zmemS 3 rfl rfl⟩, (fun h => by cases h), (fun h => by cases h)⟩
set_option maxRecDepth 100000 in
theorem qX2_firstUnlike : zMok zX2_firstUnlike := ⟨zmQ3 34 rfl rfl, ⟨by decide +kernel, by decide +kernel, by decide +kernel⟩, zmQ1 2 rfl rfl, fun _ => ⟨zmQ3 32 rfl rfl, zmQ3 33 rfl rfl⟩, (fun h => by cases h), (fun h => by cases h)⟩
set_option maxRecDepth 100000 in
theorem qX2_differenceOf : zMok zX2_differenceOf := ⟨zmQ3 101 rfl rfl, ⟨by decide +kernel, by decide +kernel, by decide +kernel⟩, zmQ1 2 rfl rfl, fun _ => ⟨zmQ3 99 rfl rfl, zmQ3 100 rfl rfl⟩, (fun h => by cases h), (fun h => by cases h)⟩
set_option maxRecDepth 100000 in
theorem qX2_exchangesOf : zMok zX2_exchangesOf := ⟨zmQ3 113 rfl rfl, ⟨by decide +kernel, by decide +kernel, by decide +kernel⟩, zmQ1 2 rfl rfl, fun _ => ⟨zmQ3 111 rfl rfl, zmQ3 112 rfl rfl⟩, (fun h => by cases h), (fun h => by cases h)⟩
set_option maxRecDepth 100000 in
theorem qX2_layKinds : zMok zX2_layKinds := ⟨zmQ3 158 rfl rfl, ⟨by decide +kernel, by decide +kernel, by decide +kernel⟩, zmQ1 2 rfl rfl, fun _ => ⟨zmQ3 156 rfl rfl, zmQ3 157 rfl rfl⟩, (fun h => by cases h), (fun h => by cases h)⟩
set_option maxRecDepth 100000 in
theorem qX2_difference : zMok zX2_difference := ⟨zmQ3 105 rfl rfl, ⟨by decide +kernel, by decide +kernel, by decide +kernel⟩, zmQ1 2 rfl rfl, fun _ => ⟨zmQ3 104 rfl rfl, zmemS 23 rfl rfl⟩, (fun h => by cases h), (fun h => by cases h)⟩
set_option maxRecDepth 100000 in
theorem qX2_exchanges : zMok zX2_exchanges := ⟨zmQ3 117 rfl rfl, ⟨by decide +kernel, by decide +kernel, by decide +kernel⟩, zmQ1 2 rfl rfl, fun _ => ⟨zmQ3 116 rfl rfl, zmemS 24 rfl rfl⟩, (fun h => by cases h), (fun h => by cases h)⟩
set_option maxRecDepth 100000 in
theorem qX2_layKindsFrom : zMok zX2_layKindsFrom := ⟨zmQ3 162 rfl rfl, ⟨by decide +kernel, by decide +kernel, by decide +kernel⟩, zmQ1 2 rfl rfl, fun _ => ⟨zmQ3 161 rfl rfl, zmemS 26 rfl rfl⟩, (fun h => by cases h), (fun h => by cases h)⟩
set_option maxRecDepth 100000 in
theorem qX3_init : zMok zX3_init := ⟨zmQ1 165 rfl rfl, ⟨by decide +kernel, by decide +kernel, by decide +kernel⟩, zmQ1 6 rfl rfl, (fun h => by cases h), (fun h => by cases h), fun _ => ⟨zmQ1 164 rfl rfl, rfl, rfl⟩⟩
set_option maxRecDepth 100000 in
theorem qX3_drop : zMok zX3_drop := ⟨zmQ3 138 rfl rfl, ⟨by decide +kernel, by decide +kernel, by decide +kernel⟩, zmQ1 6 rfl rfl, fun _ => ⟨zmQ3 136 rfl rfl, zmQ3 137 rfl rfl⟩, (fun h => by cases h), (fun h => by cases h)⟩
set_option maxRecDepth 100000 in
theorem qX3_holdNode : zMok zX3_holdNode := ⟨zmQ3 150 rfl rfl, ⟨by decide +kernel, by decide +kernel, by decide +kernel⟩, zmQ1 6 rfl rfl, fun _ => ⟨zmQ3 148 rfl rfl, zmQ3 149 rfl rfl⟩, (fun h => by cases h), (fun h => by cases h)⟩
set_option maxRecDepth 100000 in
theorem qX3_holdNoughts : zMok zX3_holdNoughts := ⟨zmQ3 154 rfl rfl, ⟨by decide +kernel, by decide +kernel, by decide +kernel⟩, zmQ1 6 rfl rfl, fun _ => ⟨zmQ3 152 rfl rfl, zmQ3 153 rfl rfl⟩, (fun h => by cases h), (fun h => by cases h)⟩
set_option maxRecDepth 100000 in
theorem qX3_holdRow : zMok zX3_holdRow := ⟨zmQ3 142 rfl rfl, ⟨by decide +kernel, by decide +kernel, by decide +kernel⟩, zmQ1 6 rfl rfl, fun _ => ⟨zmQ3 140 rfl rfl, zmQ3 141 rfl rfl⟩, (fun h => by cases h), (fun h => by cases h)⟩
set_option maxRecDepth 100000 in
theorem qX3_hasRow : zMok zX3_hasRow := ⟨zmQ3 174 rfl rfl, ⟨by decide +kernel, by decide +kernel, by decide +kernel⟩, zmQ1 6 rfl rfl, fun _ => ⟨zmQ3 172 rfl rfl, zmQ3 173 rfl rfl⟩, (fun h => by cases h), (fun h => by cases h)⟩
set_option maxRecDepth 100000 in
theorem qX3_hasSpan : zMok zX3_hasSpan := ⟨zmQ3 178 rfl rfl, ⟨by decide +kernel, by decide +kernel, by decide +kernel⟩, zmQ1 6 rfl rfl, fun _ => ⟨zmQ3 176 rfl rfl, zmQ3 177 rfl rfl⟩, (fun h => by cases h), (fun h => by cases h)⟩
set_option maxRecDepth 100000 in
theorem qX3_weighNode : zMok zX3_weighNode := ⟨zmQ3 193 rfl rfl, ⟨by decide +kernel, by decide +kernel, by decide +kernel⟩, zmQ1 6 rfl rfl, fun _ => ⟨zmQ3 191 rfl rfl, zmQ3 192 rfl rfl⟩, (fun h => by cases h), (fun h => by cases h)⟩
set_option maxRecDepth 100000 in
theorem qX4_init : zMok zX4_init := ⟨zmQ1 93 rfl rfl, ⟨by decide +kernel, by decide +kernel, by decide +kernel⟩, zmQ1 3 rfl rfl, (fun h => by cases h), (fun h => by cases h), fun _ => ⟨zmQ1 92 rfl rfl, rfl, rfl⟩⟩
set_option maxRecDepth 100000 in
theorem qX4_isTooLong : zMok zX4_isTooLong := ⟨zmQ2 133 rfl rfl, ⟨by decide +kernel, by decide +kernel, by decide +kernel⟩, zmQ1 3 rfl rfl, fun _ => ⟨zmQ2 131 rfl rfl, zmQ2 132 rfl rfl⟩, (fun h => by cases h), (fun h => by cases h)⟩
set_option maxRecDepth 100000 in
theorem qX4_sayInStyle : zMok zX4_sayInStyle := ⟨zmQ2 100 rfl rfl, ⟨by decide +kernel, by decide +kernel, by decide +kernel⟩, zmQ1 3 rfl rfl, fun _ => ⟨zmQ2 98 rfl rfl, zmQ2 99 rfl rfl⟩, (fun h => by cases h), (fun h => by cases h)⟩
set_option maxRecDepth 100000 in
theorem qX4_saySparingly : zMok zX4_saySparingly := ⟨zmQ3 46 rfl rfl, ⟨by decide +kernel, by decide +kernel, by decide +kernel⟩, zmQ1 3 rfl rfl, fun _ => ⟨zmQ3 44 rfl rfl, zmQ3 45 rfl rfl⟩, (fun h => by cases h), (fun h => by cases h)⟩
set_option maxRecDepth 100000 in
theorem qX4_isSameAs : zMok zX4_isSameAs := ⟨zmQ2 145 rfl rfl, ⟨by decide +kernel, by decide +kernel, by decide +kernel⟩, zmQ1 3 rfl rfl, fun _ => ⟨zmQ2 143 rfl rfl, zmQ2 144 rfl rfl⟩, (fun h => by cases h), (fun h => by cases h)⟩
set_option maxRecDepth 100000 in
theorem qX4_tell : zMok zX4_tell := ⟨zmQ2 105 rfl rfl, ⟨by decide +kernel, by decide +kernel, by decide +kernel⟩, zmQ1 3 rfl rfl, fun _ => ⟨zmQ2 104 rfl rfl, zmemS 4 rfl rfl⟩, (fun h => by cases h), (fun h => by cases h)⟩
set_option maxRecDepth 100000 in
theorem qX4_tellBare : zMok zX4_tellBare := ⟨zmQ2 114 rfl rfl, ⟨by decide +kernel, by decide +kernel, by decide +kernel⟩, zmQ1 3 rfl rfl, fun _ => ⟨zmQ2 113 rfl rfl, zmemS 6 rfl rfl⟩, (fun h => by cases h), (fun h => by cases h)⟩
set_option maxRecDepth 100000 in
theorem qX4_isPartKept : zMok zX4_isPartKept := ⟨zmQ2 118 rfl rfl, ⟨by decide +kernel, by decide +kernel, by decide +kernel⟩, zmQ1 3 rfl rfl, fun _ => ⟨zmQ2 117 rfl rfl, zmemS 7 rfl rfl⟩, (fun h => by cases h), (fun h => by cases h)⟩
set_option maxRecDepth 100000 in
theorem qX4_addDigits : zMok zX4_addDigits := ⟨zmQ2 129 rfl rfl, ⟨by decide +kernel, by decide +kernel, by decide +kernel⟩, zmQ1 3 rfl rfl, fun _ => ⟨zmQ2 128 rfl rfl, zmemS 8 rfl rfl⟩, (fun h => by cases h), (fun h => by cases h)⟩
set_option maxRecDepth 100000 in
theorem qX4_add : zMok zX4_add := ⟨zmQ2 110 rfl rfl, ⟨by decide +kernel, by decide +kernel, by decide +kernel⟩, zmQ1 3 rfl rfl, fun _ => ⟨zmQ2 109 rfl rfl, zmemS 5 rfl rfl⟩, (fun h => by cases h), (fun h => by cases h)⟩
set_option maxRecDepth 100000 in
theorem qX5_init : zMok zX5_init := ⟨zmQ1 144 rfl rfl, ⟨by decide +kernel, by decide +kernel, by decide +kernel⟩, zmQ1 5 rfl rfl, (fun h => by cases h), (fun h => by cases h), fun _ => ⟨zmQ1 143 rfl rfl, rfl, rfl⟩⟩
set_option maxRecDepth 100000 in
theorem qX5_isBegun : zMok zX5_isBegun := ⟨zmQ2 41 rfl rfl, ⟨by decide +kernel, by decide +kernel, by decide +kernel⟩, zmQ1 5 rfl rfl, fun _ => ⟨zmQ2 39 rfl rfl, zmQ2 40 rfl rfl⟩, (fun h => by cases h), (fun h => by cases h)⟩
set_option maxRecDepth 100000 in
theorem qX5_top : zMok zX5_top := ⟨zmQ2 45 rfl rfl, ⟨by decide +kernel, by decide +kernel, by decide +kernel⟩, zmQ1 5 rfl rfl, fun _ => ⟨zmQ2 43 rfl rfl, zmQ2 44 rfl rfl⟩, (fun h => by cases h), (fun h => by cases h)⟩
set_option maxRecDepth 100000 in
theorem qX5_here : zMok zX5_here := ⟨zmQ3 75 rfl rfl, ⟨by decide +kernel, by decide +kernel, by decide +kernel⟩, zmQ1 5 rfl rfl, fun _ => ⟨zmQ3 73 rfl rfl, zmQ3 74 rfl rfl⟩, (fun h => by cases h), (fun h => by cases h)⟩
set_option maxRecDepth 100000 in
theorem qX5_beginAt : zMok zX5_beginAt := ⟨zmQ3 54 rfl rfl, ⟨by decide +kernel, by decide +kernel, by decide +kernel⟩, zmQ1 5 rfl rfl, fun _ => ⟨zmQ3 52 rfl rfl, zmQ3 53 rfl rfl⟩, (fun h => by cases h), (fun h => by cases h)⟩
set_option maxRecDepth 100000 in
theorem qX5_stepDown : zMok zX5_stepDown := ⟨zmQ3 71 rfl rfl, ⟨by decide +kernel, by decide +kernel, by decide +kernel⟩, zmQ1 5 rfl rfl, fun _ => ⟨zmQ3 69 rfl rfl, zmQ3 70 rfl rfl⟩, (fun h => by cases h), (fun h => by cases h)⟩
set_option maxRecDepth 100000 in
theorem qX5_stepUp : zMok zX5_stepUp := ⟨zmQ3 62 rfl rfl, ⟨by decide +kernel, by decide +kernel, by decide +kernel⟩, zmQ1 5 rfl rfl, fun _ => ⟨zmQ3 60 rfl rfl, zmQ3 61 rfl rfl⟩, (fun h => by cases h), (fun h => by cases h)⟩
set_option maxRecDepth 100000 in
theorem qX5_stepBeside : zMok zX5_stepBeside := ⟨zmQ3 66 rfl rfl, ⟨by decide +kernel, by decide +kernel, by decide +kernel⟩, zmQ1 5 rfl rfl, fun _ => ⟨zmQ3 64 rfl rfl, zmQ3 65 rfl rfl⟩, (fun h => by cases h), (fun h => by cases h)⟩
set_option maxRecDepth 100000 in
theorem qX5_asNumber : zMok zX5_asNumber := ⟨zmQ4 60 rfl rfl, ⟨by decide +kernel, by decide +kernel, by decide +kernel⟩, zmQ1 5 rfl rfl, fun _ => ⟨zmQ4 58 rfl rfl, zmQ4 59 rfl rfl⟩, (fun h => by cases h), (fun h => by cases h)⟩
set_option maxRecDepth 100000 in
theorem qX5_follow : zMok zX5_follow := ⟨zmQ3 84 rfl rfl, ⟨by decide +kernel, by decide +kernel, by decide +kernel⟩, zmQ1 5 rfl rfl, fun _ => ⟨zmQ3 82 rfl rfl, zmQ3 83 rfl rfl⟩, (fun h => by cases h), (fun h => by cases h)⟩
set_option maxRecDepth 100000 in
theorem qX5_leadsSomewhere : zMok zX5_leadsSomewhere := ⟨zmQ3 88 rfl rfl, ⟨by decide +kernel, by decide +kernel, by decide +kernel⟩, zmQ1 5 rfl rfl, fun _ => ⟨zmQ3 87 rfl rfl, zmemS 22 rfl rfl⟩, (fun h => by cases h), (fun h => by cases h)⟩
set_option maxRecDepth 100000 in
theorem qX6_init : zMok zX6_init := ⟨zmQ1 21 rfl rfl, ⟨by decide +kernel, by decide +kernel, by decide +kernel⟩, zmQ1 1 rfl rfl, (fun h => by cases h), (fun h => by cases h), fun _ => ⟨zmQ1 20 rfl rfl, rfl, rfl⟩⟩
set_option maxRecDepth 100000 in
theorem qX6_leaf : zMok zX6_leaf := ⟨zmQ1 220 rfl rfl, ⟨by decide +kernel, by decide +kernel, by decide +kernel⟩, zmQ1 1 rfl rfl, fun _ => ⟨zmQ1 218 rfl rfl, zmQ1 219 rfl rfl⟩, (fun h => by cases h), (fun h => by cases h)⟩
set_option maxRecDepth 100000 in
theorem qX6_node : zMok zX6_node := ⟨zmQ2 22 rfl rfl, ⟨by decide +kernel, by decide +kernel, by decide +kernel⟩, zmQ1 1 rfl rfl, fun _ => ⟨zmQ2 20 rfl rfl, zmQ2 21 rfl rfl⟩, (fun h => by cases h), (fun h => by cases h)⟩
set_option maxRecDepth 100000 in
theorem qX6_undo : zMok zX6_undo := ⟨zmQ2 37 rfl rfl, ⟨by decide +kernel, by decide +kernel, by decide +kernel⟩, zmQ1 1 rfl rfl, fun _ => ⟨zmQ2 35 rfl rfl, zmQ2 36 rfl rfl⟩, (fun h => by cases h), (fun h => by cases h)⟩
set_option maxRecDepth 100000 in
theorem qX6_means : zMok zX6_means := ⟨zmQ2 49 rfl rfl, ⟨by decide +kernel, by decide +kernel, by decide +kernel⟩, zmQ1 1 rfl rfl, fun _ => ⟨zmQ2 47 rfl rfl, zmQ2 48 rfl rfl⟩, (fun h => by cases h), (fun h => by cases h)⟩
set_option maxRecDepth 100000 in
theorem qX6_look : zMok zX6_look := ⟨zmQ2 56 rfl rfl, ⟨by decide +kernel, by decide +kernel, by decide +kernel⟩, zmQ1 1 rfl rfl, fun _ => ⟨zmQ2 54 rfl rfl, zmQ2 55 rfl rfl⟩, (fun h => by cases h), (fun h => by cases h)⟩
set_option maxRecDepth 100000 in
theorem qX6_alike : zMok zX6_alike := ⟨zmQ2 67 rfl rfl, ⟨by decide +kernel, by decide +kernel, by decide +kernel⟩, zmQ1 1 rfl rfl, fun _ => ⟨zmQ2 65 rfl rfl, zmQ2 66 rfl rfl⟩, (fun h => by cases h), (fun h => by cases h)⟩
set_option maxRecDepth 100000 in
theorem qX6_times : zMok zX6_times := ⟨zmQ2 75 rfl rfl, ⟨by decide +kernel, by decide +kernel, by decide +kernel⟩, zmQ1 1 rfl rfl, fun _ => ⟨zmQ2 73 rfl rfl, zmQ2 74 rfl rfl⟩, (fun h => by cases h), (fun h => by cases h)⟩
set_option maxRecDepth 100000 in
theorem qX6_keeps : zMok zX6_keeps := ⟨zmQ2 88 rfl rfl, ⟨by decide +kernel, by decide +kernel, by decide +kernel⟩, zmQ1 1 rfl rfl, fun _ => ⟨zmQ2 86 rfl rfl, zmQ2 87 rfl rfl⟩, (fun h => by cases h), (fun h => by cases h)⟩
set_option maxRecDepth 100000 in
theorem qX6_words : zMok zX6_words := ⟨zmQ2 96 rfl rfl, ⟨by decide +kernel, by decide +kernel, by decide +kernel⟩, zmQ1 1 rfl rfl, fun _ => ⟨zmQ2 94 rfl rfl, zmQ2 95 rfl rfl⟩, (fun h => by cases h), (fun h => by cases h)⟩
set_option maxRecDepth 100000 in
theorem qX6_word : zMok zX6_word := ⟨zmQ2 137 rfl rfl, ⟨by decide +kernel, by decide +kernel, by decide +kernel⟩, zmQ1 1 rfl rfl, fun _ => ⟨zmQ2 135 rfl rfl, zmQ2 136 rfl rfl⟩, (fun h => by cases h), (fun h => by cases h)⟩
set_option maxRecDepth 100000 in
theorem qX6_sound : zMok zX6_sound := ⟨zmQ2 141 rfl rfl, ⟨by decide +kernel, by decide +kernel, by decide +kernel⟩, zmQ1 1 rfl rfl, fun _ => ⟨zmQ2 139 rfl rfl, zmQ2 140 rfl rfl⟩, (fun h => by cases h), (fun h => by cases h)⟩
set_option maxRecDepth 100000 in
theorem qX6_clear : zMok zX6_clear := ⟨zmQ2 150 rfl rfl, ⟨by decide +kernel, by decide +kernel, by decide +kernel⟩, zmQ1 1 rfl rfl, fun _ => ⟨zmQ2 148 rfl rfl, zmQ2 149 rfl rfl⟩, (fun h => by cases h), (fun h => by cases h)⟩
set_option maxRecDepth 100000 in
theorem qX6_hear : zMok zX6_hear := ⟨zmQ2 155 rfl rfl, ⟨by decide +kernel, by decide +kernel, by decide +kernel⟩, zmQ1 1 rfl rfl, fun _ => ⟨zmQ2 153 rfl rfl, zmQ2 154 rfl rfl⟩, (fun h => by cases h), (fun h => by cases h)⟩
set_option maxRecDepth 100000 in
theorem qX6_listen : zMok zX6_listen := ⟨zmQ2 166 rfl rfl, ⟨by decide +kernel, by decide +kernel, by decide +kernel⟩, zmQ1 1 rfl rfl, fun _ => ⟨zmQ2 164 rfl rfl, zmQ2 165 rfl rfl⟩, (fun h => by cases h), (fun h => by cases h)⟩
set_option maxRecDepth 100000 in
theorem qX6_hush : zMok zX6_hush := ⟨zmQ2 174 rfl rfl, ⟨by decide +kernel, by decide +kernel, by decide +kernel⟩, zmQ1 1 rfl rfl, fun _ => ⟨zmQ2 172 rfl rfl, zmQ2 173 rfl rfl⟩, (fun h => by cases h), (fun h => by cases h)⟩
set_option maxRecDepth 100000 in
theorem qX6_ear : zMok zX6_ear := ⟨zmQ2 178 rfl rfl, ⟨by decide +kernel, by decide +kernel, by decide +kernel⟩, zmQ1 1 rfl rfl, fun _ => ⟨zmQ2 176 rfl rfl, zmQ2 177 rfl rfl⟩, (fun h => by cases h), (fun h => by cases h)⟩
set_option maxRecDepth 100000 in
theorem qX6_readings : zMok zX6_readings := ⟨zmQ3 205 rfl rfl, ⟨by decide +kernel, by decide +kernel, by decide +kernel⟩, zmQ1 1 rfl rfl, fun _ => ⟨zmQ3 203 rfl rfl, zmQ3 204 rfl rfl⟩, (fun h => by cases h), (fun h => by cases h)⟩
set_option maxRecDepth 100000 in
theorem qX6_write : zMok zX6_write := ⟨zmQ2 182 rfl rfl, ⟨by decide +kernel, by decide +kernel, by decide +kernel⟩, zmQ1 1 rfl rfl, fun _ => ⟨zmQ2 180 rfl rfl, zmQ2 181 rfl rfl⟩, (fun h => by cases h), (fun h => by cases h)⟩
set_option maxRecDepth 100000 in
theorem qX6_place : zMok zX6_place := ⟨zmQ3 6 rfl rfl, ⟨by decide +kernel, by decide +kernel, by decide +kernel⟩, zmQ1 1 rfl rfl, fun _ => ⟨zmQ3 4 rfl rfl, zmQ3 5 rfl rfl⟩, (fun h => by cases h), (fun h => by cases h)⟩
set_option maxRecDepth 100000 in
theorem qX6_doubt : zMok zX6_doubt := ⟨zmQ3 30 rfl rfl, ⟨by decide +kernel, by decide +kernel, by decide +kernel⟩, zmQ1 1 rfl rfl, fun _ => ⟨zmQ3 28 rfl rfl, zmQ3 29 rfl rfl⟩, (fun h => by cases h), (fun h => by cases h)⟩
set_option maxRecDepth 100000 in
theorem qX6_fewest : zMok zX6_fewest := ⟨zmQ3 42 rfl rfl, ⟨by decide +kernel, by decide +kernel, by decide +kernel⟩, zmQ1 1 rfl rfl, fun _ => ⟨zmQ3 40 rfl rfl, zmQ3 41 rfl rfl⟩, (fun h => by cases h), (fun h => by cases h)⟩
set_option maxRecDepth 100000 in
theorem qX6_walk : zMok zX6_walk := ⟨zmQ3 50 rfl rfl, ⟨by decide +kernel, by decide +kernel, by decide +kernel⟩, zmQ1 1 rfl rfl, fun _ => ⟨zmQ3 48 rfl rfl, zmQ3 49 rfl rfl⟩, (fun h => by cases h), (fun h => by cases h)⟩
set_option maxRecDepth 100000 in
theorem qX6_go : zMok zX6_go := ⟨zmQ3 58 rfl rfl, ⟨by decide +kernel, by decide +kernel, by decide +kernel⟩, zmQ1 1 rfl rfl, fun _ => ⟨zmQ3 56 rfl rfl, zmQ3 57 rfl rfl⟩, (fun h => by cases h), (fun h => by cases h)⟩
set_option maxRecDepth 100000 in
theorem qX6_where : zMok zX6_where := ⟨zmQ4 40 rfl rfl, ⟨by decide +kernel, by decide +kernel, by decide +kernel⟩, zmQ1 1 rfl rfl, fun _ => ⟨zmQ4 38 rfl rfl, zmQ4 39 rfl rfl⟩, (fun h => by cases h), (fun h => by cases h)⟩
set_option maxRecDepth 100000 in
theorem qX6_lead : zMok zX6_lead := ⟨zmQ3 80 rfl rfl, ⟨by decide +kernel, by decide +kernel, by decide +kernel⟩, zmQ1 1 rfl rfl, fun _ => ⟨zmQ3 78 rfl rfl, zmQ3 79 rfl rfl⟩, (fun h => by cases h), (fun h => by cases h)⟩
set_option maxRecDepth 100000 in
theorem qX6_glance : zMok zX6_glance := ⟨zmQ3 93 rfl rfl, ⟨by decide +kernel, by decide +kernel, by decide +kernel⟩, zmQ1 1 rfl rfl, fun _ => ⟨zmQ3 91 rfl rfl, zmQ3 92 rfl rfl⟩, (fun h => by cases h), (fun h => by cases h)⟩
set_option maxRecDepth 100000 in
theorem qX6_changed : zMok zX6_changed := ⟨zmQ3 97 rfl rfl, ⟨by decide +kernel, by decide +kernel, by decide +kernel⟩, zmQ1 1 rfl rfl, fun _ => ⟨zmQ3 95 rfl rfl, zmQ3 96 rfl rfl⟩, (fun h => by cases h), (fun h => by cases h)⟩
set_option maxRecDepth 100000 in
theorem qX6_exchanged : zMok zX6_exchanged := ⟨zmQ3 109 rfl rfl, ⟨by decide +kernel, by decide +kernel, by decide +kernel⟩, zmQ1 1 rfl rfl, fun _ => ⟨zmQ3 107 rfl rfl, zmQ3 108 rfl rfl⟩, (fun h => by cases h), (fun h => by cases h)⟩
set_option maxRecDepth 100000 in
theorem qX6_count : zMok zX6_count := ⟨zmQ3 121 rfl rfl, ⟨by decide +kernel, by decide +kernel, by decide +kernel⟩, zmQ1 1 rfl rfl, fun _ => ⟨zmQ3 119 rfl rfl, zmQ3 120 rfl rfl⟩, (fun h => by cases h), (fun h => by cases h)⟩
set_option maxRecDepth 100000 in
theorem qX6_keep : zMok zX6_keep := ⟨zmQ3 131 rfl rfl, ⟨by decide +kernel, by decide +kernel, by decide +kernel⟩, zmQ1 1 rfl rfl, fun _ => ⟨zmQ3 129 rfl rfl, zmQ3 130 rfl rfl⟩, (fun h => by cases h), (fun h => by cases h)⟩
set_option maxRecDepth 100000 in
theorem qX6_make : zMok zX6_make := ⟨zmQ3 166 rfl rfl, ⟨by decide +kernel, by decide +kernel, by decide +kernel⟩, zmQ1 1 rfl rfl, fun _ => ⟨zmQ3 164 rfl rfl, zmQ3 165 rfl rfl⟩, (fun h => by cases h), (fun h => by cases h)⟩
set_option maxRecDepth 100000 in
theorem qX6_element : zMok zX6_element := ⟨zmQ4 70 rfl rfl, ⟨by decide +kernel, by decide +kernel, by decide +kernel⟩, zmQ1 1 rfl rfl, fun _ => ⟨zmQ4 68 rfl rfl, zmQ4 69 rfl rfl⟩, (fun h => by cases h), (fun h => by cases h)⟩
set_option maxRecDepth 100000 in
theorem qX6_copy : zMok zX6_copy := ⟨zmQ3 170 rfl rfl, ⟨by decide +kernel, by decide +kernel, by decide +kernel⟩, zmQ1 1 rfl rfl, fun _ => ⟨zmQ3 168 rfl rfl, zmQ3 169 rfl rfl⟩, (fun h => by cases h), (fun h => by cases h)⟩
set_option maxRecDepth 100000 in
theorem qX6_weight : zMok zX6_weight := ⟨zmQ3 185 rfl rfl, ⟨by decide +kernel, by decide +kernel, by decide +kernel⟩, zmQ1 1 rfl rfl, fun _ => ⟨zmQ3 183 rfl rfl, zmQ3 184 rfl rfl⟩, (fun h => by cases h), (fun h => by cases h)⟩
set_option maxRecDepth 100000 in
theorem qX6_toss : zMok zX6_toss := ⟨zmQ3 197 rfl rfl, ⟨by decide +kernel, by decide +kernel, by decide +kernel⟩, zmQ1 1 rfl rfl, fun _ => ⟨zmQ3 195 rfl rfl, zmQ3 196 rfl rfl⟩, (fun h => by cases h), (fun h => by cases h)⟩
set_option maxRecDepth 100000 in
theorem qX6_isLetter : zMok zX6_isLetter := ⟨zmQ2 29 rfl rfl, ⟨by decide +kernel, by decide +kernel, by decide +kernel⟩, zmQ1 1 rfl rfl, (fun h => by cases h), fun _ => zmQ2 28 rfl rfl, (fun h => by cases h)⟩
set_option maxRecDepth 100000 in
theorem qX6_isStyle : zMok zX6_isStyle := ⟨zmQ2 91 rfl rfl, ⟨by decide +kernel, by decide +kernel, by decide +kernel⟩, zmQ1 1 rfl rfl, (fun h => by cases h), fun _ => zmQ2 90 rfl rfl, (fun h => by cases h)⟩
set_option maxRecDepth 100000 in
theorem qX6_isStyleOrFree : zMok zX6_isStyleOrFree := ⟨zmQ2 185 rfl rfl, ⟨by decide +kernel, by decide +kernel, by decide +kernel⟩, zmQ1 1 rfl rfl, (fun h => by cases h), fun _ => zmQ2 184 rfl rfl, (fun h => by cases h)⟩
set_option maxRecDepth 100000 in
theorem qX6_isShelf : zMok zX6_isShelf := ⟨zmQ3 134 rfl rfl, ⟨by decide +kernel, by decide +kernel, by decide +kernel⟩, zmQ1 1 rfl rfl, (fun h => by cases h), fun _ => zmQ3 133 rfl rfl, (fun h => by cases h)⟩
set_option maxRecDepth 100000 in
theorem qX6_orMissing : zMok zX6_orMissing := ⟨zmQ2 59 rfl rfl, ⟨by decide +kernel, by decide +kernel, by decide +kernel⟩, zmQ1 1 rfl rfl, (fun h => by cases h), fun _ => zmQ2 58 rfl rfl, (fun h => by cases h)⟩
set_option maxRecDepth 100000 in
theorem qX6_digitOf : zMok zX6_digitOf := ⟨zmQ2 158 rfl rfl, ⟨by decide +kernel, by decide +kernel, by decide +kernel⟩, zmQ1 1 rfl rfl, (fun h => by cases h), fun _ => zmQ2 157 rfl rfl, (fun h => by cases h)⟩
set_option maxRecDepth 100000 in
theorem qX6_hearSpeech : zMok zX6_hearSpeech := ⟨zmQ2 170 rfl rfl, ⟨by decide +kernel, by decide +kernel, by decide +kernel⟩, zmQ1 1 rfl rfl, fun _ => ⟨zmQ2 169 rfl rfl, zmemS 9 rfl rfl⟩, (fun h => by cases h), (fun h => by cases h)⟩
set_option maxRecDepth 100000 in
theorem qX6_tallyIn : zMok zX6_tallyIn := ⟨zmQ2 189 rfl rfl, ⟨by decide +kernel, by decide +kernel, by decide +kernel⟩, zmQ1 1 rfl rfl, fun _ => ⟨zmQ2 188 rfl rfl, zmemS 10 rfl rfl⟩, (fun h => by cases h), (fun h => by cases h)⟩
set_option maxRecDepth 100000 in
theorem qX6_keepNode : zMok zX6_keepNode := ⟨zmQ3 146 rfl rfl, ⟨by decide +kernel, by decide +kernel, by decide +kernel⟩, zmQ1 1 rfl rfl, fun _ => ⟨zmQ3 145 rfl rfl, zmemS 25 rfl rfl⟩, (fun h => by cases h), (fun h => by cases h)⟩
set_option maxRecDepth 100000 in
theorem qX6_nodeRefusal : zMok zX6_nodeRefusal := ⟨zmQ3 189 rfl rfl, ⟨by decide +kernel, by decide +kernel, by decide +kernel⟩, zmQ1 1 rfl rfl, fun _ => ⟨zmQ3 188 rfl rfl, zmemS 27 rfl rfl⟩, (fun h => by cases h), (fun h => by cases h)⟩
set_option maxRecDepth 100000 in
theorem qX7_init : zMok zX7_init := ⟨zmQ4 78 rfl rfl, ⟨by decide +kernel, by decide +kernel, by decide +kernel⟩, zmQ1 7 rfl rfl, (fun h => by cases h), (fun h => by cases h), fun _ => ⟨zmQ4 77 rfl rfl, rfl, rfl⟩⟩
set_option maxRecDepth 100000 in
theorem qX7_in : zMok zX7_in := ⟨zmQ4 193 rfl rfl, ⟨by decide +kernel, by decide +kernel, by decide +kernel⟩, zmQ1 7 rfl rfl, (fun h => by cases h), fun _ => zmQ4 192 rfl rfl, (fun h => by cases h)⟩
set_option maxRecDepth 100000 in
theorem qX7_isNode : zMok zX7_isNode := ⟨zmQ4 208 rfl rfl, ⟨by decide +kernel, by decide +kernel, by decide +kernel⟩, zmQ1 7 rfl rfl, fun _ => ⟨zmQ4 207 rfl rfl, zmemS 30 rfl rfl⟩, (fun h => by cases h), (fun h => by cases h)⟩
set_option maxRecDepth 100000 in
theorem qX7_isTwo : zMok zX7_isTwo := ⟨zmQ4 211 rfl rfl, ⟨by decide +kernel, by decide +kernel, by decide +kernel⟩, zmQ1 7 rfl rfl, (fun h => by cases h), fun _ => zmQ4 210 rfl rfl, (fun h => by cases h)⟩
set_option maxRecDepth 100000 in
theorem qX7_mayKeep : zMok zX7_mayKeep := ⟨zmQ5 15 rfl rfl, ⟨by decide +kernel, by decide +kernel, by decide +kernel⟩, zmQ1 7 rfl rfl, (fun h => by cases h), fun _ => zmQ5 14 rfl rfl, (fun h => by cases h)⟩
set_option maxRecDepth 100000 in
theorem qX7_isStyle : zMok zX7_isStyle := ⟨zmQ5 11 rfl rfl, ⟨by decide +kernel, by decide +kernel, by decide +kernel⟩, zmQ1 7 rfl rfl, (fun h => by cases h), fun _ => zmQ5 10 rfl rfl, (fun h => by cases h)⟩
set_option maxRecDepth 100000 in
theorem qX7_sets : zMok zX7_sets := ⟨zmQ4 199 rfl rfl, ⟨by decide +kernel, by decide +kernel, by decide +kernel⟩, zmQ1 7 rfl rfl, fun _ => ⟨zmQ4 198 rfl rfl, zmemS 29 rfl rfl⟩, (fun h => by cases h), (fun h => by cases h)⟩
set_option maxRecDepth 100000 in
theorem qX7_leaf : zMok zX7_leaf := ⟨zmQ4 190 rfl rfl, ⟨by decide +kernel, by decide +kernel, by decide +kernel⟩, zmQ1 7 rfl rfl, fun _ => ⟨zmQ4 188 rfl rfl, zmQ4 189 rfl rfl⟩, (fun h => by cases h), (fun h => by cases h)⟩
set_option maxRecDepth 100000 in
theorem qX7_node : zMok zX7_node := ⟨zmQ4 203 rfl rfl, ⟨by decide +kernel, by decide +kernel, by decide +kernel⟩, zmQ1 7 rfl rfl, fun _ => ⟨zmQ4 201 rfl rfl, zmQ4 202 rfl rfl⟩, (fun h => by cases h), (fun h => by cases h)⟩
set_option maxRecDepth 100000 in
theorem qX7_undo : zMok zX7_undo := ⟨zmQ4 215 rfl rfl, ⟨by decide +kernel, by decide +kernel, by decide +kernel⟩, zmQ1 7 rfl rfl, fun _ => ⟨zmQ4 213 rfl rfl, zmQ4 214 rfl rfl⟩, (fun h => by cases h), (fun h => by cases h)⟩
set_option maxRecDepth 100000 in
theorem qX7_means : zMok zX7_means := ⟨zmQ4 219 rfl rfl, ⟨by decide +kernel, by decide +kernel, by decide +kernel⟩, zmQ1 7 rfl rfl, fun _ => ⟨zmQ4 217 rfl rfl, zmQ4 218 rfl rfl⟩, (fun h => by cases h), (fun h => by cases h)⟩
set_option maxRecDepth 100000 in
theorem qX7_isRight : zMok zX7_isRight := ⟨zmQ4 228 rfl rfl, ⟨by decide +kernel, by decide +kernel, by decide +kernel⟩, zmQ1 7 rfl rfl, fun _ => ⟨zmQ4 227 rfl rfl, zmemS 31 rfl rfl⟩, (fun h => by cases h), (fun h => by cases h)⟩
set_option maxRecDepth 100000 in
theorem qX7_look : zMok zX7_look := ⟨zmQ4 223 rfl rfl, ⟨by decide +kernel, by decide +kernel, by decide +kernel⟩, zmQ1 7 rfl rfl, fun _ => ⟨zmQ4 221 rfl rfl, zmQ4 222 rfl rfl⟩, (fun h => by cases h), (fun h => by cases h)⟩
set_option maxRecDepth 100000 in
theorem qX7_areAlike : zMok zX7_areAlike := ⟨zmQ4 236 rfl rfl, ⟨by decide +kernel, by decide +kernel, by decide +kernel⟩, zmQ1 7 rfl rfl, fun _ => ⟨zmQ4 235 rfl rfl, zmemS 32 rfl rfl⟩, (fun h => by cases h), (fun h => by cases h)⟩
set_option maxRecDepth 100000 in
theorem qX7_alike : zMok zX7_alike := ⟨zmQ4 232 rfl rfl, ⟨by decide +kernel, by decide +kernel, by decide +kernel⟩, zmQ1 7 rfl rfl, fun _ => ⟨zmQ4 230 rfl rfl, zmQ4 231 rfl rfl⟩, (fun h => by cases h), (fun h => by cases h)⟩
set_option maxRecDepth 100000 in
theorem qX7_has : zMok zX7_has := ⟨zmQ5 4 rfl rfl, ⟨by decide +kernel, by decide +kernel, by decide +kernel⟩, zmQ1 7 rfl rfl, fun _ => ⟨zmQ5 3 rfl rfl, zmemS 33 rfl rfl⟩, (fun h => by cases h), (fun h => by cases h)⟩
set_option maxRecDepth 100000 in
theorem qX7_times : zMok zX7_times := ⟨zmQ5 0 rfl rfl, ⟨by decide +kernel, by decide +kernel, by decide +kernel⟩, zmQ1 7 rfl rfl, fun _ => ⟨zmQ4 238 rfl rfl, zmQ4 239 rfl rfl⟩, (fun h => by cases h), (fun h => by cases h)⟩
set_option maxRecDepth 100000 in
theorem qX7_keeps : zMok zX7_keeps := ⟨zmQ5 8 rfl rfl, ⟨by decide +kernel, by decide +kernel, by decide +kernel⟩, zmQ1 7 rfl rfl, fun _ => ⟨zmQ5 6 rfl rfl, zmQ5 7 rfl rfl⟩, (fun h => by cases h), (fun h => by cases h)⟩
set_option maxRecDepth 100000 in
theorem qX7_digits : zMok zX7_digits := ⟨zmQ5 30 rfl rfl, ⟨by decide +kernel, by decide +kernel, by decide +kernel⟩, zmQ1 7 rfl rfl, (fun h => by cases h), fun _ => zmQ5 29 rfl rfl, (fun h => by cases h)⟩
set_option maxRecDepth 100000 in
theorem qX7_own : zMok zX7_own := ⟨zmQ5 27 rfl rfl, ⟨by decide +kernel, by decide +kernel, by decide +kernel⟩, zmQ1 7 rfl rfl, fun _ => ⟨zmQ5 26 rfl rfl, zmemS 35 rfl rfl⟩, (fun h => by cases h), (fun h => by cases h)⟩
set_option maxRecDepth 100000 in
theorem qX7_length : zMok zX7_length := ⟨zmQ5 23 rfl rfl, ⟨by decide +kernel, by decide +kernel, by decide +kernel⟩, zmQ1 7 rfl rfl, fun _ => ⟨zmQ5 22 rfl rfl, zmemS 34 rfl rfl⟩, (fun h => by cases h), (fun h => by cases h)⟩
set_option maxRecDepth 100000 in
theorem qX7_says : zMok zX7_says := ⟨zmQ5 50 rfl rfl, ⟨by decide +kernel, by decide +kernel, by decide +kernel⟩, zmQ1 7 rfl rfl, fun _ => ⟨zmQ5 49 rfl rfl, zmemS 39 rfl rfl⟩, (fun h => by cases h), (fun h => by cases h)⟩
set_option maxRecDepth 100000 in
theorem qX7_keepsIt : zMok zX7_keepsIt := ⟨zmQ5 46 rfl rfl, ⟨by decide +kernel, by decide +kernel, by decide +kernel⟩, zmQ1 7 rfl rfl, fun _ => ⟨zmQ5 45 rfl rfl, zmemS 38 rfl rfl⟩, (fun h => by cases h), (fun h => by cases h)⟩
set_option maxRecDepth 100000 in
theorem qX7_say : zMok zX7_say := ⟨zmQ5 42 rfl rfl, ⟨by decide +kernel, by decide +kernel, by decide +kernel⟩, zmQ1 7 rfl rfl, fun _ => ⟨zmQ5 41 rfl rfl, zmemS 37 rfl rfl⟩, (fun h => by cases h), (fun h => by cases h)⟩
set_option maxRecDepth 100000 in
theorem qX7_sayAll : zMok zX7_sayAll := ⟨zmQ5 38 rfl rfl, ⟨by decide +kernel, by decide +kernel, by decide +kernel⟩, zmQ1 7 rfl rfl, fun _ => ⟨zmQ5 37 rfl rfl, zmemS 36 rfl rfl⟩, (fun h => by cases h), (fun h => by cases h)⟩
set_option maxRecDepth 100000 in
theorem qX7_words : zMok zX7_words := ⟨zmQ5 19 rfl rfl, ⟨by decide +kernel, by decide +kernel, by decide +kernel⟩, zmQ1 7 rfl rfl, fun _ => ⟨zmQ5 17 rfl rfl, zmQ5 18 rfl rfl⟩, (fun h => by cases h), (fun h => by cases h)⟩
set_option maxRecDepth 100000 in
theorem qX7_word : zMok zX7_word := ⟨zmQ5 34 rfl rfl, ⟨by decide +kernel, by decide +kernel, by decide +kernel⟩, zmQ1 7 rfl rfl, fun _ => ⟨zmQ5 32 rfl rfl, zmQ5 33 rfl rfl⟩, (fun h => by cases h), (fun h => by cases h)⟩
set_option maxRecDepth 100000 in
theorem qX7_sound : zMok zX7_sound := ⟨zmQ5 54 rfl rfl, ⟨by decide +kernel, by decide +kernel, by decide +kernel⟩, zmQ1 7 rfl rfl, fun _ => ⟨zmQ5 52 rfl rfl, zmQ5 53 rfl rfl⟩, (fun h => by cases h), (fun h => by cases h)⟩
set_option maxRecDepth 100000 in
theorem qX7_adds : zMok zX7_adds := ⟨zmQ5 63 rfl rfl, ⟨by decide +kernel, by decide +kernel, by decide +kernel⟩, zmQ1 7 rfl rfl, fun _ => ⟨zmQ5 62 rfl rfl, zmemS 40 rfl rfl⟩, (fun h => by cases h), (fun h => by cases h)⟩
set_option maxRecDepth 100000 in
theorem qX7_grows : zMok zX7_grows := ⟨zmQ5 67 rfl rfl, ⟨by decide +kernel, by decide +kernel, by decide +kernel⟩, zmQ1 7 rfl rfl, fun _ => ⟨zmQ5 66 rfl rfl, zmemS 41 rfl rfl⟩, (fun h => by cases h), (fun h => by cases h)⟩
set_option maxRecDepth 100000 in
theorem qX7_isSame : zMok zX7_isSame := ⟨zmQ5 71 rfl rfl, ⟨by decide +kernel, by decide +kernel, by decide +kernel⟩, zmQ1 7 rfl rfl, fun _ => ⟨zmQ5 70 rfl rfl, zmemS 42 rfl rfl⟩, (fun h => by cases h), (fun h => by cases h)⟩
set_option maxRecDepth 100000 in
theorem qX7_clear : zMok zX7_clear := ⟨zmQ5 58 rfl rfl, ⟨by decide +kernel, by decide +kernel, by decide +kernel⟩, zmQ1 7 rfl rfl, fun _ => ⟨zmQ5 56 rfl rfl, zmQ5 57 rfl rfl⟩, (fun h => by cases h), (fun h => by cases h)⟩
set_option maxRecDepth 100000 in
theorem qX7_hear : zMok zX7_hear := ⟨zmQ5 75 rfl rfl, ⟨by decide +kernel, by decide +kernel, by decide +kernel⟩, zmQ1 7 rfl rfl, fun _ => ⟨zmQ5 73 rfl rfl, zmQ5 74 rfl rfl⟩, (fun h => by cases h), (fun h => by cases h)⟩
set_option maxRecDepth 100000 in
theorem qX7_listen : zMok zX7_listen := ⟨zmQ5 80 rfl rfl, ⟨by decide +kernel, by decide +kernel, by decide +kernel⟩, zmQ1 7 rfl rfl, fun _ => ⟨zmQ5 78 rfl rfl, zmQ5 79 rfl rfl⟩, (fun h => by cases h), (fun h => by cases h)⟩
set_option maxRecDepth 100000 in
theorem qX7_hears : zMok zX7_hears := ⟨zmQ5 84 rfl rfl, ⟨by decide +kernel, by decide +kernel, by decide +kernel⟩, zmQ1 7 rfl rfl, fun _ => ⟨zmQ5 83 rfl rfl, zmemS 43 rfl rfl⟩, (fun h => by cases h), (fun h => by cases h)⟩
set_option maxRecDepth 100000 in
theorem qX7_hush : zMok zX7_hush := ⟨zmQ5 88 rfl rfl, ⟨by decide +kernel, by decide +kernel, by decide +kernel⟩, zmQ1 7 rfl rfl, fun _ => ⟨zmQ5 86 rfl rfl, zmQ5 87 rfl rfl⟩, (fun h => by cases h), (fun h => by cases h)⟩
set_option maxRecDepth 100000 in
theorem qX7_ear : zMok zX7_ear := ⟨zmQ5 92 rfl rfl, ⟨by decide +kernel, by decide +kernel, by decide +kernel⟩, zmQ1 7 rfl rfl, fun _ => ⟨zmQ5 90 rfl rfl, zmQ5 91 rfl rfl⟩, (fun h => by cases h), (fun h => by cases h)⟩
set_option maxRecDepth 100000 in
theorem qX7_times_ : zMok zX7_times_ := ⟨zmQ5 122 rfl rfl, ⟨by decide +kernel, by decide +kernel, by decide +kernel⟩, zmQ1 7 rfl rfl, (fun h => by cases h), fun _ => zmQ5 121 rfl rfl, (fun h => by cases h)⟩
set_option maxRecDepth 100000 in
theorem qX7_plus : zMok zX7_plus := ⟨zmQ5 126 rfl rfl, ⟨by decide +kernel, by decide +kernel, by decide +kernel⟩, zmQ1 7 rfl rfl, (fun h => by cases h), fun _ => zmQ5 125 rfl rfl, (fun h => by cases h)⟩
set_option maxRecDepth 100000 in
theorem qX7_isLet : zMok zX7_isLet := ⟨zmQ5 109 rfl rfl, ⟨by decide +kernel, by decide +kernel, by decide +kernel⟩, zmQ1 7 rfl rfl, fun _ => ⟨zmQ5 108 rfl rfl, zmemS 46 rfl rfl⟩, (fun h => by cases h), (fun h => by cases h)⟩
set_option maxRecDepth 100000 in
theorem qX7_isNumber : zMok zX7_isNumber := ⟨zmQ5 117 rfl rfl, ⟨by decide +kernel, by decide +kernel, by decide +kernel⟩, zmQ1 7 rfl rfl, fun _ => ⟨zmQ5 116 rfl rfl, zmemS 48 rfl rfl⟩, (fun h => by cases h), (fun h => by cases h)⟩
set_option maxRecDepth 100000 in
theorem qX7_within : zMok zX7_within := ⟨zmQ5 113 rfl rfl, ⟨by decide +kernel, by decide +kernel, by decide +kernel⟩, zmQ1 7 rfl rfl, fun _ => ⟨zmQ5 112 rfl rfl, zmemS 47 rfl rfl⟩, (fun h => by cases h), (fun h => by cases h)⟩
set_option maxRecDepth 100000 in
theorem qX7_reckons : zMok zX7_reckons := ⟨zmQ5 105 rfl rfl, ⟨by decide +kernel, by decide +kernel, by decide +kernel⟩, zmQ1 7 rfl rfl, fun _ => ⟨zmQ5 104 rfl rfl, zmemS 45 rfl rfl⟩, (fun h => by cases h), (fun h => by cases h)⟩
set_option maxRecDepth 100000 in
theorem qX7_counted : zMok zX7_counted := ⟨zmQ5 101 rfl rfl, ⟨by decide +kernel, by decide +kernel, by decide +kernel⟩, zmQ1 7 rfl rfl, fun _ => ⟨zmQ5 100 rfl rfl, zmemS 44 rfl rfl⟩, (fun h => by cases h), (fun h => by cases h)⟩
set_option maxRecDepth 100000 in
theorem qX7_readings : zMok zX7_readings := ⟨zmQ5 96 rfl rfl, ⟨by decide +kernel, by decide +kernel, by decide +kernel⟩, zmQ1 7 rfl rfl, fun _ => ⟨zmQ5 94 rfl rfl, zmQ5 95 rfl rfl⟩, (fun h => by cases h), (fun h => by cases h)⟩
set_option maxRecDepth 100000 in
theorem qX7_makes : zMok zX7_makes := ⟨zmQ5 138 rfl rfl, ⟨by decide +kernel, by decide +kernel, by decide +kernel⟩, zmQ1 7 rfl rfl, fun _ => ⟨zmQ5 137 rfl rfl, zmemS 50 rfl rfl⟩, (fun h => by cases h), (fun h => by cases h)⟩
set_option maxRecDepth 100000 in
theorem qX7_takes : zMok zX7_takes := ⟨zmQ5 134 rfl rfl, ⟨by decide +kernel, by decide +kernel, by decide +kernel⟩, zmQ1 7 rfl rfl, fun _ => ⟨zmQ5 133 rfl rfl, zmemS 49 rfl rfl⟩, (fun h => by cases h), (fun h => by cases h)⟩
set_option maxRecDepth 100000 in
theorem qX7_takesTwo : zMok zX7_takesTwo := ⟨zmQ5 142 rfl rfl, ⟨by decide +kernel, by decide +kernel, by decide +kernel⟩, zmQ1 7 rfl rfl, fun _ => ⟨zmQ5 141 rfl rfl, zmemS 51 rfl rfl⟩, (fun h => by cases h), (fun h => by cases h)⟩
set_option maxRecDepth 100000 in
theorem qX7_write : zMok zX7_write := ⟨zmQ5 130 rfl rfl, ⟨by decide +kernel, by decide +kernel, by decide +kernel⟩, zmQ1 7 rfl rfl, fun _ => ⟨zmQ5 128 rfl rfl, zmQ5 129 rfl rfl⟩, (fun h => by cases h), (fun h => by cases h)⟩
set_option maxRecDepth 100000 in
theorem qX7_copies : zMok zX7_copies := ⟨zmQ5 146 rfl rfl, ⟨by decide +kernel, by decide +kernel, by decide +kernel⟩, zmQ1 7 rfl rfl, fun _ => ⟨zmQ5 145 rfl rfl, zmemS 52 rfl rfl⟩, (fun h => by cases h), (fun h => by cases h)⟩
set_option maxRecDepth 100000 in
theorem qX7_rank : zMok zX7_rank := ⟨zmQ5 156 rfl rfl, ⟨by decide +kernel, by decide +kernel, by decide +kernel⟩, zmQ1 7 rfl rfl, fun _ => ⟨zmQ5 155 rfl rfl, zmemS 53 rfl rfl⟩, (fun h => by cases h), (fun h => by cases h)⟩
set_option maxRecDepth 100000 in
theorem qX7_inner : zMok zX7_inner := ⟨zmQ5 160 rfl rfl, ⟨by decide +kernel, by decide +kernel, by decide +kernel⟩, zmQ1 7 rfl rfl, fun _ => ⟨zmQ5 159 rfl rfl, zmemS 54 rfl rfl⟩, (fun h => by cases h), (fun h => by cases h)⟩
set_option maxRecDepth 100000 in
theorem qX7_innerTwo : zMok zX7_innerTwo := ⟨zmQ5 164 rfl rfl, ⟨by decide +kernel, by decide +kernel, by decide +kernel⟩, zmQ1 7 rfl rfl, fun _ => ⟨zmQ5 163 rfl rfl, zmemS 55 rfl rfl⟩, (fun h => by cases h), (fun h => by cases h)⟩
set_option maxRecDepth 100000 in
theorem qX7_place : zMok zX7_place := ⟨zmQ5 150 rfl rfl, ⟨by decide +kernel, by decide +kernel, by decide +kernel⟩, zmQ1 7 rfl rfl, fun _ => ⟨zmQ5 148 rfl rfl, zmQ5 149 rfl rfl⟩, (fun h => by cases h), (fun h => by cases h)⟩
set_option maxRecDepth 100000 in
theorem qX7_doubt : zMok zX7_doubt := ⟨zmQ5 168 rfl rfl, ⟨by decide +kernel, by decide +kernel, by decide +kernel⟩, zmQ1 7 rfl rfl, fun _ => ⟨zmQ5 166 rfl rfl, zmQ5 167 rfl rfl⟩, (fun h => by cases h), (fun h => by cases h)⟩
set_option maxRecDepth 100000 in
theorem qX7_keepable : zMok zX7_keepable := ⟨zmQ5 176 rfl rfl, ⟨by decide +kernel, by decide +kernel, by decide +kernel⟩, zmQ1 7 rfl rfl, fun _ => ⟨zmQ5 175 rfl rfl, zmemS 56 rfl rfl⟩, (fun h => by cases h), (fun h => by cases h)⟩
set_option maxRecDepth 100000 in
theorem qX7_bits : zMok zX7_bits := ⟨zmQ5 179 rfl rfl, ⟨by decide +kernel, by decide +kernel, by decide +kernel⟩, zmQ1 7 rfl rfl, (fun h => by cases h), fun _ => zmQ5 178 rfl rfl, (fun h => by cases h)⟩
set_option maxRecDepth 100000 in
theorem qX7_fewest : zMok zX7_fewest := ⟨zmQ5 172 rfl rfl, ⟨by decide +kernel, by decide +kernel, by decide +kernel⟩, zmQ1 7 rfl rfl, fun _ => ⟨zmQ5 170 rfl rfl, zmQ5 171 rfl rfl⟩, (fun h => by cases h), (fun h => by cases h)⟩
set_option maxRecDepth 100000 in
theorem qX7_isOnly : zMok zX7_isOnly := ⟨zmQ5 183 rfl rfl, ⟨by decide +kernel, by decide +kernel, by decide +kernel⟩, zmQ1 7 rfl rfl, fun _ => ⟨zmQ5 182 rfl rfl, zmemS 57 rfl rfl⟩, (fun h => by cases h), (fun h => by cases h)⟩
set_option maxRecDepth 100000 in
theorem qX7_walk : zMok zX7_walk := ⟨zmQ5 187 rfl rfl, ⟨by decide +kernel, by decide +kernel, by decide +kernel⟩, zmQ1 7 rfl rfl, fun _ => ⟨zmQ5 185 rfl rfl, zmQ5 186 rfl rfl⟩, (fun h => by cases h), (fun h => by cases h)⟩
set_option maxRecDepth 100000 in
theorem qX7_down : zMok zX7_down := ⟨zmQ5 196 rfl rfl, ⟨by decide +kernel, by decide +kernel, by decide +kernel⟩, zmQ1 7 rfl rfl, fun _ => ⟨zmQ5 195 rfl rfl, zmemS 58 rfl rfl⟩, (fun h => by cases h), (fun h => by cases h)⟩
set_option maxRecDepth 100000 in
theorem qX7_go : zMok zX7_go := ⟨zmQ5 191 rfl rfl, ⟨by decide +kernel, by decide +kernel, by decide +kernel⟩, zmQ1 7 rfl rfl, fun _ => ⟨zmQ5 189 rfl rfl, zmQ5 190 rfl rfl⟩, (fun h => by cases h), (fun h => by cases h)⟩
set_option maxRecDepth 100000 in
theorem qX7_where : zMok zX7_where := ⟨zmQ5 200 rfl rfl, ⟨by decide +kernel, by decide +kernel, by decide +kernel⟩, zmQ1 7 rfl rfl, fun _ => ⟨zmQ5 198 rfl rfl, zmQ5 199 rfl rfl⟩, (fun h => by cases h), (fun h => by cases h)⟩
set_option maxRecDepth 100000 in
theorem qX7_lead : zMok zX7_lead := ⟨zmQ5 204 rfl rfl, ⟨by decide +kernel, by decide +kernel, by decide +kernel⟩, zmQ1 7 rfl rfl, fun _ => ⟨zmQ5 202 rfl rfl, zmQ5 203 rfl rfl⟩, (fun h => by cases h), (fun h => by cases h)⟩
set_option maxRecDepth 100000 in
theorem qX7_glanced : zMok zX7_glanced := ⟨zmQ5 212 rfl rfl, ⟨by decide +kernel, by decide +kernel, by decide +kernel⟩, zmQ1 7 rfl rfl, fun _ => ⟨zmQ5 211 rfl rfl, zmemS 59 rfl rfl⟩, (fun h => by cases h), (fun h => by cases h)⟩
set_option maxRecDepth 100000 in
theorem qX7_glance : zMok zX7_glance := ⟨zmQ5 208 rfl rfl, ⟨by decide +kernel, by decide +kernel, by decide +kernel⟩, zmQ1 7 rfl rfl, fun _ => ⟨zmQ5 206 rfl rfl, zmQ5 207 rfl rfl⟩, (fun h => by cases h), (fun h => by cases h)⟩
set_option maxRecDepth 100000 in
theorem qX7_inside : zMok zX7_inside := ⟨zmQ5 224 rfl rfl, ⟨by decide +kernel, by decide +kernel, by decide +kernel⟩, zmQ1 7 rfl rfl, fun _ => ⟨zmQ5 223 rfl rfl, zmemS 61 rfl rfl⟩, (fun h => by cases h), (fun h => by cases h)⟩
set_option maxRecDepth 100000 in
theorem qX7_difference : zMok zX7_difference := ⟨zmQ5 220 rfl rfl, ⟨by decide +kernel, by decide +kernel, by decide +kernel⟩, zmQ1 7 rfl rfl, fun _ => ⟨zmQ5 219 rfl rfl, zmemS 60 rfl rfl⟩, (fun h => by cases h), (fun h => by cases h)⟩
set_option maxRecDepth 100000 in
theorem qX7_wholes : zMok zX7_wholes := ⟨zmQ5 232 rfl rfl, ⟨by decide +kernel, by decide +kernel, by decide +kernel⟩, zmQ1 7 rfl rfl, fun _ => ⟨zmQ5 231 rfl rfl, zmemS 62 rfl rfl⟩, (fun h => by cases h), (fun h => by cases h)⟩
set_option maxRecDepth 100000 in
theorem qX7_changed : zMok zX7_changed := ⟨zmQ5 216 rfl rfl, ⟨by decide +kernel, by decide +kernel, by decide +kernel⟩, zmQ1 7 rfl rfl, fun _ => ⟨zmQ5 214 rfl rfl, zmQ5 215 rfl rfl⟩, (fun h => by cases h), (fun h => by cases h)⟩
set_option maxRecDepth 100000 in
theorem qX7_exchanged : zMok zX7_exchanged := ⟨zmQ5 228 rfl rfl, ⟨by decide +kernel, by decide +kernel, by decide +kernel⟩, zmQ1 7 rfl rfl, fun _ => ⟨zmQ5 226 rfl rfl, zmQ5 227 rfl rfl⟩, (fun h => by cases h), (fun h => by cases h)⟩
set_option maxRecDepth 100000 in
theorem qX7_functions : zMok zX7_functions := ⟨zmQ6 0 rfl rfl, ⟨by decide +kernel, by decide +kernel, by decide +kernel⟩, zmQ1 7 rfl rfl, fun _ => ⟨zmQ5 239 rfl rfl, zmemS 63 rfl rfl⟩, (fun h => by cases h), (fun h => by cases h)⟩
set_option maxRecDepth 100000 in
theorem qX7_count : zMok zX7_count := ⟨zmQ5 236 rfl rfl, ⟨by decide +kernel, by decide +kernel, by decide +kernel⟩, zmQ1 7 rfl rfl, fun _ => ⟨zmQ5 234 rfl rfl, zmQ5 235 rfl rfl⟩, (fun h => by cases h), (fun h => by cases h)⟩
set_option maxRecDepth 100000 in
theorem qX7_isShelf : zMok zX7_isShelf := ⟨zmQ6 7 rfl rfl, ⟨by decide +kernel, by decide +kernel, by decide +kernel⟩, zmQ1 7 rfl rfl, (fun h => by cases h), fun _ => zmQ6 6 rfl rfl, (fun h => by cases h)⟩
set_option maxRecDepth 100000 in
theorem qX7_kinds : zMok zX7_kinds := ⟨zmQ6 11 rfl rfl, ⟨by decide +kernel, by decide +kernel, by decide +kernel⟩, zmQ1 7 rfl rfl, fun _ => ⟨zmQ6 10 rfl rfl, zmemS 64 rfl rfl⟩, (fun h => by cases h), (fun h => by cases h)⟩
set_option maxRecDepth 100000 in
theorem qX7_keep : zMok zX7_keep := ⟨zmQ6 4 rfl rfl, ⟨by decide +kernel, by decide +kernel, by decide +kernel⟩, zmQ1 7 rfl rfl, fun _ => ⟨zmQ6 2 rfl rfl, zmQ6 3 rfl rfl⟩, (fun h => by cases h), (fun h => by cases h)⟩
set_option maxRecDepth 100000 in
theorem qX7_make : zMok zX7_make := ⟨zmQ6 15 rfl rfl, ⟨by decide +kernel, by decide +kernel, by decide +kernel⟩, zmQ1 7 rfl rfl, fun _ => ⟨zmQ6 13 rfl rfl, zmQ6 14 rfl rfl⟩, (fun h => by cases h), (fun h => by cases h)⟩
set_option maxRecDepth 100000 in
theorem qX7_element : zMok zX7_element := ⟨zmQ6 19 rfl rfl, ⟨by decide +kernel, by decide +kernel, by decide +kernel⟩, zmQ1 7 rfl rfl, fun _ => ⟨zmQ6 17 rfl rfl, zmQ6 18 rfl rfl⟩, (fun h => by cases h), (fun h => by cases h)⟩
set_option maxRecDepth 100000 in
theorem qX7_copy : zMok zX7_copy := ⟨zmQ6 23 rfl rfl, ⟨by decide +kernel, by decide +kernel, by decide +kernel⟩, zmQ1 7 rfl rfl, fun _ => ⟨zmQ6 21 rfl rfl, zmQ6 22 rfl rfl⟩, (fun h => by cases h), (fun h => by cases h)⟩
set_option maxRecDepth 100000 in
theorem qX7_held : zMok zX7_held := ⟨zmQ6 31 rfl rfl, ⟨by decide +kernel, by decide +kernel, by decide +kernel⟩, zmQ1 7 rfl rfl, fun _ => ⟨zmQ6 30 rfl rfl, zmemS 65 rfl rfl⟩, (fun h => by cases h), (fun h => by cases h)⟩
set_option maxRecDepth 100000 in
theorem qX7_weight : zMok zX7_weight := ⟨zmQ6 27 rfl rfl, ⟨by decide +kernel, by decide +kernel, by decide +kernel⟩, zmQ1 7 rfl rfl, fun _ => ⟨zmQ6 25 rfl rfl, zmQ6 26 rfl rfl⟩, (fun h => by cases h), (fun h => by cases h)⟩
set_option maxRecDepth 100000 in
theorem qX7_toss : zMok zX7_toss := ⟨zmQ6 35 rfl rfl, ⟨by decide +kernel, by decide +kernel, by decide +kernel⟩, zmQ1 7 rfl rfl, fun _ => ⟨zmQ6 33 rfl rfl, zmQ6 34 rfl rfl⟩, (fun h => by cases h), (fun h => by cases h)⟩
set_option maxRecDepth 100000 in
theorem qJ6_bitCount_0f7a4 : zMok zJ6_bitCount_0f7a4 := ⟨zmQ3 124 rfl rfl, ⟨by decide +kernel, by decide +kernel, by decide +kernel⟩, zmQ1 15 rfl rfl, (fun h => by cases h), fun _ => zmQ3 123 rfl rfl, (fun h => by cases h)⟩
set_option maxRecDepth 100000 in
theorem qJ9_max_7cf53 : zMok zJ9_max_7cf53 := ⟨zmQ2 6 rfl rfl, ⟨by decide +kernel, by decide +kernel, by decide +kernel⟩, zmQ1 9 rfl rfl, (fun h => by cases h), fun _ => zmQ2 5 rfl rfl, (fun h => by cases h)⟩
set_option maxRecDepth 100000 in
theorem qJ9_min_7cf53 : zMok zJ9_min_7cf53 := ⟨zmQ4 63 rfl rfl, ⟨by decide +kernel, by decide +kernel, by decide +kernel⟩, zmQ1 9 rfl rfl, (fun h => by cases h), fun _ => zmQ4 62 rfl rfl, (fun h => by cases h)⟩
set_option maxRecDepth 100000 in
theorem qJ9_min_f86c9 : zMok zJ9_min_f86c9 := ⟨zmQ2 225 rfl rfl, ⟨by decide +kernel, by decide +kernel, by decide +kernel⟩, zmQ1 9 rfl rfl, (fun h => by cases h), fun _ => zmQ2 224 rfl rfl, (fun h => by cases h)⟩
theorem zms_ok0 : ∀ z ∈ ([zX0_init, zX0_add, zX0_tally, zX0_waysOf, zX0_isBracketed, zX0_bareWays, zX0_kindByEnds, zX0_partFrom, zX0_partTo, zX0_numberIn, zX0_build, zX0_buildSpan, zX0_buildBare, zX0_buildPair, zX0_placeOf, zX0_placeIn, zX0_placeBare, zX0_placePair, zX1_isPair, zX1_isPrefix, zX1_hasBit, zX1_withBit, zX1_isDoubtful, zX2_init, zX2_has, zX2_isFull, zX2_sizeOf, zX2_partOf, zX2_put, zX2_addPart] : List zMt), zMok z := zcons qX0_init (zcons qX0_add (zcons qX0_tally (zcons qX0_waysOf (zcons qX0_isBracketed (zcons qX0_bareWays (zcons qX0_kindByEnds (zcons qX0_partFrom (zcons qX0_partTo (zcons qX0_numberIn (zcons qX0_build (zcons qX0_buildSpan (zcons qX0_buildBare (zcons qX0_buildPair (zcons qX0_placeOf (zcons qX0_placeIn (zcons qX0_placeBare (zcons qX0_placePair (zcons qX1_isPair (zcons qX1_isPrefix (zcons qX1_hasBit (zcons qX1_withBit (zcons qX1_isDoubtful (zcons qX2_init (zcons qX2_has (zcons qX2_isFull (zcons qX2_sizeOf (zcons qX2_partOf (zcons qX2_put (zcons qX2_addPart (znil))))))))))))))))))))))))))))))
theorem zms_ok1 : ∀ z ∈ ([zX2_ownWords, zX2_firstAlike, zX2_shapeOf, zX2_isSameTop, zX2_isAlike, zX2_isRight, zX2_timesWithin, zX2_tallyOf, zX2_firstUnlike, zX2_differenceOf, zX2_exchangesOf, zX2_layKinds, zX2_difference, zX2_exchanges, zX2_layKindsFrom, zX3_init, zX3_drop, zX3_holdNode, zX3_holdNoughts, zX3_holdRow, zX3_hasRow, zX3_hasSpan, zX3_weighNode, zX4_init, zX4_isTooLong, zX4_sayInStyle, zX4_saySparingly, zX4_isSameAs, zX4_tell, zX4_tellBare] : List zMt), zMok z := zcons qX2_ownWords (zcons qX2_firstAlike (zcons qX2_shapeOf (zcons qX2_isSameTop (zcons qX2_isAlike (zcons qX2_isRight (zcons qX2_timesWithin (zcons qX2_tallyOf (zcons qX2_firstUnlike (zcons qX2_differenceOf (zcons qX2_exchangesOf (zcons qX2_layKinds (zcons qX2_difference (zcons qX2_exchanges (zcons qX2_layKindsFrom (zcons qX3_init (zcons qX3_drop (zcons qX3_holdNode (zcons qX3_holdNoughts (zcons qX3_holdRow (zcons qX3_hasRow (zcons qX3_hasSpan (zcons qX3_weighNode (zcons qX4_init (zcons qX4_isTooLong (zcons qX4_sayInStyle (zcons qX4_saySparingly (zcons qX4_isSameAs (zcons qX4_tell (zcons qX4_tellBare (znil))))))))))))))))))))))))))))))
theorem zms_ok2 : ∀ z ∈ ([zX4_isPartKept, zX4_addDigits, zX4_add, zX5_init, zX5_isBegun, zX5_top, zX5_here, zX5_beginAt, zX5_stepDown, zX5_stepUp, zX5_stepBeside, zX5_asNumber, zX5_follow, zX5_leadsSomewhere, zX6_init, zX6_leaf, zX6_node, zX6_undo, zX6_means, zX6_look, zX6_alike, zX6_times, zX6_keeps, zX6_words, zX6_word, zX6_sound, zX6_clear, zX6_hear, zX6_listen, zX6_hush] : List zMt), zMok z := zcons qX4_isPartKept (zcons qX4_addDigits (zcons qX4_add (zcons qX5_init (zcons qX5_isBegun (zcons qX5_top (zcons qX5_here (zcons qX5_beginAt (zcons qX5_stepDown (zcons qX5_stepUp (zcons qX5_stepBeside (zcons qX5_asNumber (zcons qX5_follow (zcons qX5_leadsSomewhere (zcons qX6_init (zcons qX6_leaf (zcons qX6_node (zcons qX6_undo (zcons qX6_means (zcons qX6_look (zcons qX6_alike (zcons qX6_times (zcons qX6_keeps (zcons qX6_words (zcons qX6_word (zcons qX6_sound (zcons qX6_clear (zcons qX6_hear (zcons qX6_listen (zcons qX6_hush (znil))))))))))))))))))))))))))))))
theorem zms_ok3 : ∀ z ∈ ([zX6_ear, zX6_readings, zX6_write, zX6_place, zX6_doubt, zX6_fewest, zX6_walk, zX6_go, zX6_where, zX6_lead, zX6_glance, zX6_changed, zX6_exchanged, zX6_count, zX6_keep, zX6_make, zX6_element, zX6_copy, zX6_weight, zX6_toss, zX6_isLetter, zX6_isStyle, zX6_isStyleOrFree, zX6_isShelf, zX6_orMissing, zX6_digitOf, zX6_hearSpeech, zX6_tallyIn, zX6_keepNode, zX6_nodeRefusal] : List zMt), zMok z := zcons qX6_ear (zcons qX6_readings (zcons qX6_write (zcons qX6_place (zcons qX6_doubt (zcons qX6_fewest (zcons qX6_walk (zcons qX6_go (zcons qX6_where (zcons qX6_lead (zcons qX6_glance (zcons qX6_changed (zcons qX6_exchanged (zcons qX6_count (zcons qX6_keep (zcons qX6_make (zcons qX6_element (zcons qX6_copy (zcons qX6_weight (zcons qX6_toss (zcons qX6_isLetter (zcons qX6_isStyle (zcons qX6_isStyleOrFree (zcons qX6_isShelf (zcons qX6_orMissing (zcons qX6_digitOf (zcons qX6_hearSpeech (zcons qX6_tallyIn (zcons qX6_keepNode (zcons qX6_nodeRefusal (znil))))))))))))))))))))))))))))))
theorem zms_ok4 : ∀ z ∈ ([zX7_init, zX7_in, zX7_isNode, zX7_isTwo, zX7_mayKeep, zX7_isStyle, zX7_sets, zX7_leaf, zX7_node, zX7_undo, zX7_means, zX7_isRight, zX7_look, zX7_areAlike, zX7_alike, zX7_has, zX7_times, zX7_keeps, zX7_digits, zX7_own, zX7_length, zX7_says, zX7_keepsIt, zX7_say, zX7_sayAll, zX7_words, zX7_word, zX7_sound, zX7_adds, zX7_grows] : List zMt), zMok z := zcons qX7_init (zcons qX7_in (zcons qX7_isNode (zcons qX7_isTwo (zcons qX7_mayKeep (zcons qX7_isStyle (zcons qX7_sets (zcons qX7_leaf (zcons qX7_node (zcons qX7_undo (zcons qX7_means (zcons qX7_isRight (zcons qX7_look (zcons qX7_areAlike (zcons qX7_alike (zcons qX7_has (zcons qX7_times (zcons qX7_keeps (zcons qX7_digits (zcons qX7_own (zcons qX7_length (zcons qX7_says (zcons qX7_keepsIt (zcons qX7_say (zcons qX7_sayAll (zcons qX7_words (zcons qX7_word (zcons qX7_sound (zcons qX7_adds (zcons qX7_grows (znil))))))))))))))))))))))))))))))
theorem zms_ok5 : ∀ z ∈ ([zX7_isSame, zX7_clear, zX7_hear, zX7_listen, zX7_hears, zX7_hush, zX7_ear, zX7_times_, zX7_plus, zX7_isLet, zX7_isNumber, zX7_within, zX7_reckons, zX7_counted, zX7_readings, zX7_makes, zX7_takes, zX7_takesTwo, zX7_write, zX7_copies, zX7_rank, zX7_inner, zX7_innerTwo, zX7_place, zX7_doubt, zX7_keepable, zX7_bits, zX7_fewest, zX7_isOnly, zX7_walk] : List zMt), zMok z := zcons qX7_isSame (zcons qX7_clear (zcons qX7_hear (zcons qX7_listen (zcons qX7_hears (zcons qX7_hush (zcons qX7_ear (zcons qX7_times_ (zcons qX7_plus (zcons qX7_isLet (zcons qX7_isNumber (zcons qX7_within (zcons qX7_reckons (zcons qX7_counted (zcons qX7_readings (zcons qX7_makes (zcons qX7_takes (zcons qX7_takesTwo (zcons qX7_write (zcons qX7_copies (zcons qX7_rank (zcons qX7_inner (zcons qX7_innerTwo (zcons qX7_place (zcons qX7_doubt (zcons qX7_keepable (zcons qX7_bits (zcons qX7_fewest (zcons qX7_isOnly (zcons qX7_walk (znil))))))))))))))))))))))))))))))
theorem zms_ok6 : ∀ z ∈ ([zX7_down, zX7_go, zX7_where, zX7_lead, zX7_glanced, zX7_glance, zX7_inside, zX7_difference, zX7_wholes, zX7_changed, zX7_exchanged, zX7_functions, zX7_count, zX7_isShelf, zX7_kinds, zX7_keep, zX7_make, zX7_element, zX7_copy, zX7_held, zX7_weight, zX7_toss, zJ6_bitCount_0f7a4, zJ9_max_7cf53, zJ9_min_7cf53, zJ9_min_f86c9] : List zMt), zMok z := zcons qX7_down (zcons qX7_go (zcons qX7_where (zcons qX7_lead (zcons qX7_glanced (zcons qX7_glance (zcons qX7_inside (zcons qX7_difference (zcons qX7_wholes (zcons qX7_changed (zcons qX7_exchanged (zcons qX7_functions (zcons qX7_count (zcons qX7_isShelf (zcons qX7_kinds (zcons qX7_keep (zcons qX7_make (zcons qX7_element (zcons qX7_copy (zcons qX7_held (zcons qX7_weight (zcons qX7_toss (zcons qJ6_bitCount_0f7a4 (zcons qJ9_max_7cf53 (zcons qJ9_min_7cf53 (zcons qJ9_min_f86c9 (znil))))))))))))))))))))))))))
theorem zms_ok : ∀ z ∈ zms, zMok z := by
  show ∀ z ∈ ([zX0_init, zX0_add, zX0_tally, zX0_waysOf, zX0_isBracketed, zX0_bareWays, zX0_kindByEnds, zX0_partFrom, zX0_partTo, zX0_numberIn, zX0_build, zX0_buildSpan, zX0_buildBare, zX0_buildPair, zX0_placeOf, zX0_placeIn, zX0_placeBare, zX0_placePair, zX1_isPair, zX1_isPrefix, zX1_hasBit, zX1_withBit, zX1_isDoubtful, zX2_init, zX2_has, zX2_isFull, zX2_sizeOf, zX2_partOf, zX2_put, zX2_addPart] : List zMt) ++ (([zX2_ownWords, zX2_firstAlike, zX2_shapeOf, zX2_isSameTop, zX2_isAlike, zX2_isRight, zX2_timesWithin, zX2_tallyOf, zX2_firstUnlike, zX2_differenceOf, zX2_exchangesOf, zX2_layKinds, zX2_difference, zX2_exchanges, zX2_layKindsFrom, zX3_init, zX3_drop, zX3_holdNode, zX3_holdNoughts, zX3_holdRow, zX3_hasRow, zX3_hasSpan, zX3_weighNode, zX4_init, zX4_isTooLong, zX4_sayInStyle, zX4_saySparingly, zX4_isSameAs, zX4_tell, zX4_tellBare] : List zMt) ++ (([zX4_isPartKept, zX4_addDigits, zX4_add, zX5_init, zX5_isBegun, zX5_top, zX5_here, zX5_beginAt, zX5_stepDown, zX5_stepUp, zX5_stepBeside, zX5_asNumber, zX5_follow, zX5_leadsSomewhere, zX6_init, zX6_leaf, zX6_node, zX6_undo, zX6_means, zX6_look, zX6_alike, zX6_times, zX6_keeps, zX6_words, zX6_word, zX6_sound, zX6_clear, zX6_hear, zX6_listen, zX6_hush] : List zMt) ++ (([zX6_ear, zX6_readings, zX6_write, zX6_place, zX6_doubt, zX6_fewest, zX6_walk, zX6_go, zX6_where, zX6_lead, zX6_glance, zX6_changed, zX6_exchanged, zX6_count, zX6_keep, zX6_make, zX6_element, zX6_copy, zX6_weight, zX6_toss, zX6_isLetter, zX6_isStyle, zX6_isStyleOrFree, zX6_isShelf, zX6_orMissing, zX6_digitOf, zX6_hearSpeech, zX6_tallyIn, zX6_keepNode, zX6_nodeRefusal] : List zMt) ++ (([zX7_init, zX7_in, zX7_isNode, zX7_isTwo, zX7_mayKeep, zX7_isStyle, zX7_sets, zX7_leaf, zX7_node, zX7_undo, zX7_means, zX7_isRight, zX7_look, zX7_areAlike, zX7_alike, zX7_has, zX7_times, zX7_keeps, zX7_digits, zX7_own, zX7_length, zX7_says, zX7_keepsIt, zX7_say, zX7_sayAll, zX7_words, zX7_word, zX7_sound, zX7_adds, zX7_grows] : List zMt) ++ (([zX7_isSame, zX7_clear, zX7_hear, zX7_listen, zX7_hears, zX7_hush, zX7_ear, zX7_times_, zX7_plus, zX7_isLet, zX7_isNumber, zX7_within, zX7_reckons, zX7_counted, zX7_readings, zX7_makes, zX7_takes, zX7_takesTwo, zX7_write, zX7_copies, zX7_rank, zX7_inner, zX7_innerTwo, zX7_place, zX7_doubt, zX7_keepable, zX7_bits, zX7_fewest, zX7_isOnly, zX7_walk] : List zMt) ++ (([zX7_down, zX7_go, zX7_where, zX7_lead, zX7_glanced, zX7_glance, zX7_inside, zX7_difference, zX7_wholes, zX7_changed, zX7_exchanged, zX7_functions, zX7_count, zX7_isShelf, zX7_kinds, zX7_keep, zX7_make, zX7_element, zX7_copy, zX7_held, zX7_weight, zX7_toss, zJ6_bitCount_0f7a4, zJ9_max_7cf53, zJ9_min_7cf53, zJ9_min_f86c9] : List zMt))))))), zMok z
  exact zapp zms_ok0 (zapp zms_ok1 (zapp zms_ok2 (zapp zms_ok3 (zapp zms_ok4 (zapp zms_ok5 (zms_ok6))))))
