theorem zmemT {x : Cond} (i : Nat) (h : tables_1[i]? = some x) (hg : goodWord x = true) : x ∈ zG := List.mem_filter.mpr ⟨List.mem_append_right _ (List.mem_of_getElem? h), hg⟩
set_option maxRecDepth 100000 in
theorem qX0_init : Cond.code zX0_init.1 zX0_init.2.1 zX0_init.2.2.1 zX0_init.2.2.2.1 ∈ zG := zmemT 114 rfl rfl
set_option maxRecDepth 100000 in
theorem qX0_add : Cond.code zX0_add.1 zX0_add.2.1 zX0_add.2.2.1 zX0_add.2.2.2.1 ∈ zG := zmemT 402 rfl rfl
set_option maxRecDepth 100000 in
theorem qX0_tally : Cond.code zX0_tally.1 zX0_tally.2.1 zX0_tally.2.2.1 zX0_tally.2.2.2.1 ∈ zG := zmemT 433 rfl rfl
set_option maxRecDepth 100000 in
theorem qX0_waysOf : Cond.code zX0_waysOf.1 zX0_waysOf.2.1 zX0_waysOf.2.2.1 zX0_waysOf.2.2.2.1 ∈ zG := zmemT 437 rfl rfl
set_option maxRecDepth 100000 in
theorem qX0_isBracketed : Cond.code zX0_isBracketed.1 zX0_isBracketed.2.1 zX0_isBracketed.2.2.1 zX0_isBracketed.2.2.2.1 ∈ zG := zmemT 461 rfl rfl
set_option maxRecDepth 100000 in
theorem qX0_bareWays : Cond.code zX0_bareWays.1 zX0_bareWays.2.1 zX0_bareWays.2.2.1 zX0_bareWays.2.2.2.1 ∈ zG := zmemT 441 rfl rfl
set_option maxRecDepth 100000 in
theorem qX0_kindByEnds : Cond.code zX0_kindByEnds.1 zX0_kindByEnds.2.1 zX0_kindByEnds.2.2.1 zX0_kindByEnds.2.2.2.1 ∈ zG := zmemT 447 rfl rfl
set_option maxRecDepth 100000 in
theorem qX0_partFrom : Cond.code zX0_partFrom.1 zX0_partFrom.2.1 zX0_partFrom.2.2.1 zX0_partFrom.2.2.2.1 ∈ zG := zmemT 454 rfl rfl
set_option maxRecDepth 100000 in
theorem qX0_partTo : Cond.code zX0_partTo.1 zX0_partTo.2.1 zX0_partTo.2.2.1 zX0_partTo.2.2.2.1 ∈ zG := zmemT 457 rfl rfl
set_option maxRecDepth 100000 in
theorem qX0_numberIn : Cond.code zX0_numberIn.1 zX0_numberIn.2.1 zX0_numberIn.2.2.1 zX0_numberIn.2.2.2.1 ∈ zG := zmemT 451 rfl rfl
set_option maxRecDepth 100000 in
theorem qX0_build : Cond.code zX0_build.1 zX0_build.2.1 zX0_build.2.2.1 zX0_build.2.2.2.1 ∈ zG := zmemT 469 rfl rfl
set_option maxRecDepth 100000 in
theorem qX0_buildSpan : Cond.code zX0_buildSpan.1 zX0_buildSpan.2.1 zX0_buildSpan.2.2.1 zX0_buildSpan.2.2.2.1 ∈ zG := zmemT 473 rfl rfl
set_option maxRecDepth 100000 in
theorem qX0_buildBare : Cond.code zX0_buildBare.1 zX0_buildBare.2.1 zX0_buildBare.2.2.1 zX0_buildBare.2.2.2.1 ∈ zG := zmemT 477 rfl rfl
set_option maxRecDepth 100000 in
theorem qX0_buildPair : Cond.code zX0_buildPair.1 zX0_buildPair.2.1 zX0_buildPair.2.2.1 zX0_buildPair.2.2.2.1 ∈ zG := zmemT 481 rfl rfl
set_option maxRecDepth 100000 in
theorem qX0_placeOf : Cond.code zX0_placeOf.1 zX0_placeOf.2.1 zX0_placeOf.2.2.1 zX0_placeOf.2.2.2.1 ∈ zG := zmemT 492 rfl rfl
set_option maxRecDepth 100000 in
theorem qX0_placeIn : Cond.code zX0_placeIn.1 zX0_placeIn.2.1 zX0_placeIn.2.2.1 zX0_placeIn.2.2.2.1 ∈ zG := zmemT 496 rfl rfl
set_option maxRecDepth 100000 in
theorem qX0_placeBare : Cond.code zX0_placeBare.1 zX0_placeBare.2.1 zX0_placeBare.2.2.1 zX0_placeBare.2.2.2.1 ∈ zG := zmemT 502 rfl rfl
set_option maxRecDepth 100000 in
theorem qX0_placePair : Cond.code zX0_placePair.1 zX0_placePair.2.1 zX0_placePair.2.2.1 zX0_placePair.2.2.2.1 ∈ zG := zmemT 506 rfl rfl
set_option maxRecDepth 100000 in
theorem qX1_isPair : Cond.code zX1_isPair.1 zX1_isPair.2.1 zX1_isPair.2.2.1 zX1_isPair.2.2.2.1 ∈ zG := zmemT 266 rfl rfl
set_option maxRecDepth 100000 in
theorem qX1_isPrefix : Cond.code zX1_isPrefix.1 zX1_isPrefix.2.1 zX1_isPrefix.2.2.1 zX1_isPrefix.2.2.2.1 ∈ zG := zmemT 365 rfl rfl
set_option maxRecDepth 100000 in
theorem qX1_hasBit : Cond.code zX1_hasBit.1 zX1_hasBit.2.1 zX1_hasBit.2.2.1 zX1_hasBit.2.2.2.1 ∈ zG := zmemT 235 rfl rfl
set_option maxRecDepth 100000 in
theorem qX1_withBit : Cond.code zX1_withBit.1 zX1_withBit.2.1 zX1_withBit.2.2.1 zX1_withBit.2.2.2.1 ∈ zG := zmemT 292 rfl rfl
set_option maxRecDepth 100000 in
theorem qX1_isDoubtful : Cond.code zX1_isDoubtful.1 zX1_isDoubtful.2.1 zX1_isDoubtful.2.2.1 zX1_isDoubtful.2.2.2.1 ∈ zG := zmemT 361 rfl rfl
set_option maxRecDepth 100000 in
theorem qX2_init : Cond.code zX2_init.1 zX2_init.2.1 zX2_init.2.2.1 zX2_init.2.2.2.1 ∈ zG := zmemT 29 rfl rfl
set_option maxRecDepth 100000 in
theorem qX2_has : Cond.code zX2_has.1 zX2_has.2.1 zX2_has.2.2.1 zX2_has.2.2.2.1 ∈ zG := zmemT 243 rfl rfl
set_option maxRecDepth 100000 in
theorem qX2_isFull : Cond.code zX2_isFull.1 zX2_isFull.2.1 zX2_isFull.2.2.1 zX2_isFull.2.2.2.1 ∈ zG := zmemT 224 rfl rfl
set_option maxRecDepth 100000 in
theorem qX2_sizeOf : Cond.code zX2_sizeOf.1 zX2_sizeOf.2.1 zX2_sizeOf.2.2.1 zX2_sizeOf.2.2.2.1 ∈ zG := zmemT 273 rfl rfl
set_option maxRecDepth 100000 in
theorem qX2_partOf : Cond.code zX2_partOf.1 zX2_partOf.2.1 zX2_partOf.2.2.1 zX2_partOf.2.2.2.1 ∈ zG := zmemT 518 rfl rfl
set_option maxRecDepth 100000 in
theorem qX2_put : Cond.code zX2_put.1 zX2_put.2.1 zX2_put.2.2.1 zX2_put.2.2.2.1 ∈ zG := zmemT 228 rfl rfl
set_option maxRecDepth 100000 in
theorem qX2_addPart : Cond.code zX2_addPart.1 zX2_addPart.2.1 zX2_addPart.2.2.1 zX2_addPart.2.2.2.1 ∈ zG := zmemT 239 rfl rfl
set_option maxRecDepth 100000 in
theorem qX2_ownWords : Cond.code zX2_ownWords.1 zX2_ownWords.2.1 zX2_ownWords.2.2.1 zX2_ownWords.2.2.2.1 ∈ zG := zmemT 232 rfl rfl
set_option maxRecDepth 100000 in
theorem qX2_firstAlike : Cond.code zX2_firstAlike.1 zX2_firstAlike.2.1 zX2_firstAlike.2.2.1 zX2_firstAlike.2.2.2.1 ∈ zG := zmemT 250 rfl rfl
set_option maxRecDepth 100000 in
theorem qX2_shapeOf : Cond.code zX2_shapeOf.1 zX2_shapeOf.2.1 zX2_shapeOf.2.2.1 zX2_shapeOf.2.2.2.1 ∈ zG := zmemT 258 rfl rfl
set_option maxRecDepth 100000 in
theorem qX2_isSameTop : Cond.code zX2_isSameTop.1 zX2_isSameTop.2.1 zX2_isSameTop.2.2.1 zX2_isSameTop.2.2.2.1 ∈ zG := zmemT 254 rfl rfl
set_option maxRecDepth 100000 in
theorem qX2_isAlike : Cond.code zX2_isAlike.1 zX2_isAlike.2.1 zX2_isAlike.2.2.1 zX2_isAlike.2.2.2.1 ∈ zG := zmemT 311 rfl rfl
set_option maxRecDepth 100000 in
theorem qX2_isRight : Cond.code zX2_isRight.1 zX2_isRight.2.1 zX2_isRight.2.2.1 zX2_isRight.2.2.2.1 ∈ zG := zmemT 303 rfl rfl
set_option maxRecDepth 100000 in
theorem qX2_timesWithin : Cond.code zX2_timesWithin.1 zX2_timesWithin.2.1 zX2_timesWithin.2.2.1 zX2_timesWithin.2.2.2.1 ∈ zG := zmemT 319 rfl rfl
set_option maxRecDepth 100000 in
theorem qX2_tallyOf : Cond.code zX2_tallyOf.1 zX2_tallyOf.2.1 zX2_tallyOf.2.2.1 zX2_tallyOf.2.2.2.1 ∈ zG := zmemT 324 rfl rfl
set_option maxRecDepth 100000 in
theorem qX2_firstUnlike : Cond.code zX2_firstUnlike.1 zX2_firstUnlike.2.1 zX2_firstUnlike.2.2.1 zX2_firstUnlike.2.2.2.1 ∈ zG := zmemT 514 rfl rfl
set_option maxRecDepth 100000 in
theorem qX2_differenceOf : Cond.code zX2_differenceOf.1 zX2_differenceOf.2.1 zX2_differenceOf.2.2.1 zX2_differenceOf.2.2.2.1 ∈ zG := zmemT 581 rfl rfl
set_option maxRecDepth 100000 in
theorem qX2_exchangesOf : Cond.code zX2_exchangesOf.1 zX2_exchangesOf.2.1 zX2_exchangesOf.2.2.1 zX2_exchangesOf.2.2.2.1 ∈ zG := zmemT 593 rfl rfl
set_option maxRecDepth 100000 in
theorem qX2_layKinds : Cond.code zX2_layKinds.1 zX2_layKinds.2.1 zX2_layKinds.2.2.1 zX2_layKinds.2.2.2.1 ∈ zG := zmemT 638 rfl rfl
set_option maxRecDepth 100000 in
theorem qX2_difference : Cond.code zX2_difference.1 zX2_difference.2.1 zX2_difference.2.2.1 zX2_difference.2.2.2.1 ∈ zG := zmemT 585 rfl rfl
set_option maxRecDepth 100000 in
theorem qX2_exchanges : Cond.code zX2_exchanges.1 zX2_exchanges.2.1 zX2_exchanges.2.2.1 zX2_exchanges.2.2.2.1 ∈ zG := zmemT 597 rfl rfl
set_option maxRecDepth 100000 in
theorem qX2_layKindsFrom : Cond.code zX2_layKindsFrom.1 zX2_layKindsFrom.2.1 zX2_layKindsFrom.2.2.1 zX2_layKindsFrom.2.2.2.1 ∈ zG := zmemT 642 rfl rfl
set_option maxRecDepth 100000 in
theorem qX3_init : Cond.code zX3_init.1 zX3_init.2.1 zX3_init.2.2.1 zX3_init.2.2.2.1 ∈ zG := zmemT 165 rfl rfl
set_option maxRecDepth 100000 in
theorem qX3_drop : Cond.code zX3_drop.1 zX3_drop.2.1 zX3_drop.2.2.1 zX3_drop.2.2.2.1 ∈ zG := zmemT 618 rfl rfl
set_option maxRecDepth 100000 in
theorem qX3_holdNode : Cond.code zX3_holdNode.1 zX3_holdNode.2.1 zX3_holdNode.2.2.1 zX3_holdNode.2.2.2.1 ∈ zG := zmemT 630 rfl rfl
set_option maxRecDepth 100000 in
theorem qX3_holdNoughts : Cond.code zX3_holdNoughts.1 zX3_holdNoughts.2.1 zX3_holdNoughts.2.2.1 zX3_holdNoughts.2.2.2.1 ∈ zG := zmemT 634 rfl rfl
set_option maxRecDepth 100000 in
theorem qX3_holdRow : Cond.code zX3_holdRow.1 zX3_holdRow.2.1 zX3_holdRow.2.2.1 zX3_holdRow.2.2.2.1 ∈ zG := zmemT 622 rfl rfl
set_option maxRecDepth 100000 in
theorem qX3_hasRow : Cond.code zX3_hasRow.1 zX3_hasRow.2.1 zX3_hasRow.2.2.1 zX3_hasRow.2.2.2.1 ∈ zG := zmemT 654 rfl rfl
set_option maxRecDepth 100000 in
theorem qX3_hasSpan : Cond.code zX3_hasSpan.1 zX3_hasSpan.2.1 zX3_hasSpan.2.2.1 zX3_hasSpan.2.2.2.1 ∈ zG := zmemT 658 rfl rfl
set_option maxRecDepth 100000 in
theorem qX3_weighNode : Cond.code zX3_weighNode.1 zX3_weighNode.2.1 zX3_weighNode.2.2.1 zX3_weighNode.2.2.2.1 ∈ zG := zmemT 673 rfl rfl
set_option maxRecDepth 100000 in
theorem qX4_init : Cond.code zX4_init.1 zX4_init.2.1 zX4_init.2.2.1 zX4_init.2.2.2.1 ∈ zG := zmemT 93 rfl rfl
set_option maxRecDepth 100000 in
theorem qX4_isTooLong : Cond.code zX4_isTooLong.1 zX4_isTooLong.2.1 zX4_isTooLong.2.2.1 zX4_isTooLong.2.2.2.1 ∈ zG := zmemT 373 rfl rfl
set_option maxRecDepth 100000 in
theorem qX4_sayInStyle : Cond.code zX4_sayInStyle.1 zX4_sayInStyle.2.1 zX4_sayInStyle.2.2.1 zX4_sayInStyle.2.2.2.1 ∈ zG := zmemT 340 rfl rfl
set_option maxRecDepth 100000 in
theorem qX4_saySparingly : Cond.code zX4_saySparingly.1 zX4_saySparingly.2.1 zX4_saySparingly.2.2.1 zX4_saySparingly.2.2.2.1 ∈ zG := zmemT 526 rfl rfl
set_option maxRecDepth 100000 in
theorem qX4_isSameAs : Cond.code zX4_isSameAs.1 zX4_isSameAs.2.1 zX4_isSameAs.2.2.1 zX4_isSameAs.2.2.2.1 ∈ zG := zmemT 385 rfl rfl
set_option maxRecDepth 100000 in
theorem qX4_tell : Cond.code zX4_tell.1 zX4_tell.2.1 zX4_tell.2.2.1 zX4_tell.2.2.2.1 ∈ zG := zmemT 345 rfl rfl
set_option maxRecDepth 100000 in
theorem qX4_tellBare : Cond.code zX4_tellBare.1 zX4_tellBare.2.1 zX4_tellBare.2.2.1 zX4_tellBare.2.2.2.1 ∈ zG := zmemT 354 rfl rfl
set_option maxRecDepth 100000 in
theorem qX4_isPartKept : Cond.code zX4_isPartKept.1 zX4_isPartKept.2.1 zX4_isPartKept.2.2.1 zX4_isPartKept.2.2.2.1 ∈ zG := zmemT 358 rfl rfl
set_option maxRecDepth 100000 in
theorem qX4_addDigits : Cond.code zX4_addDigits.1 zX4_addDigits.2.1 zX4_addDigits.2.2.1 zX4_addDigits.2.2.2.1 ∈ zG := zmemT 369 rfl rfl
set_option maxRecDepth 100000 in
theorem qX4_add : Cond.code zX4_add.1 zX4_add.2.1 zX4_add.2.2.1 zX4_add.2.2.2.1 ∈ zG := zmemT 350 rfl rfl
set_option maxRecDepth 100000 in
theorem qX5_init : Cond.code zX5_init.1 zX5_init.2.1 zX5_init.2.2.1 zX5_init.2.2.2.1 ∈ zG := zmemT 144 rfl rfl
set_option maxRecDepth 100000 in
theorem qX5_isBegun : Cond.code zX5_isBegun.1 zX5_isBegun.2.1 zX5_isBegun.2.2.1 zX5_isBegun.2.2.2.1 ∈ zG := zmemT 281 rfl rfl
set_option maxRecDepth 100000 in
theorem qX5_top : Cond.code zX5_top.1 zX5_top.2.1 zX5_top.2.2.1 zX5_top.2.2.2.1 ∈ zG := zmemT 285 rfl rfl
set_option maxRecDepth 100000 in
theorem qX5_here : Cond.code zX5_here.1 zX5_here.2.1 zX5_here.2.2.1 zX5_here.2.2.2.1 ∈ zG := zmemT 555 rfl rfl
set_option maxRecDepth 100000 in
theorem qX5_beginAt : Cond.code zX5_beginAt.1 zX5_beginAt.2.1 zX5_beginAt.2.2.1 zX5_beginAt.2.2.2.1 ∈ zG := zmemT 534 rfl rfl
set_option maxRecDepth 100000 in
theorem qX5_stepDown : Cond.code zX5_stepDown.1 zX5_stepDown.2.1 zX5_stepDown.2.2.1 zX5_stepDown.2.2.2.1 ∈ zG := zmemT 551 rfl rfl
set_option maxRecDepth 100000 in
theorem qX5_stepUp : Cond.code zX5_stepUp.1 zX5_stepUp.2.1 zX5_stepUp.2.2.1 zX5_stepUp.2.2.2.1 ∈ zG := zmemT 542 rfl rfl
set_option maxRecDepth 100000 in
theorem qX5_stepBeside : Cond.code zX5_stepBeside.1 zX5_stepBeside.2.1 zX5_stepBeside.2.2.1 zX5_stepBeside.2.2.2.1 ∈ zG := zmemT 546 rfl rfl
set_option maxRecDepth 100000 in
theorem qX5_asNumber : Cond.code zX5_asNumber.1 zX5_asNumber.2.1 zX5_asNumber.2.2.1 zX5_asNumber.2.2.2.1 ∈ zG := zmemT 780 rfl rfl
set_option maxRecDepth 100000 in
theorem qX5_follow : Cond.code zX5_follow.1 zX5_follow.2.1 zX5_follow.2.2.1 zX5_follow.2.2.2.1 ∈ zG := zmemT 564 rfl rfl
set_option maxRecDepth 100000 in
theorem qX5_leadsSomewhere : Cond.code zX5_leadsSomewhere.1 zX5_leadsSomewhere.2.1 zX5_leadsSomewhere.2.2.1 zX5_leadsSomewhere.2.2.2.1 ∈ zG := zmemT 568 rfl rfl
set_option maxRecDepth 100000 in
theorem qX6_init : Cond.code zX6_init.1 zX6_init.2.1 zX6_init.2.2.1 zX6_init.2.2.2.1 ∈ zG := zmemT 21 rfl rfl
set_option maxRecDepth 100000 in
theorem qX6_leaf : Cond.code zX6_leaf.1 zX6_leaf.2.1 zX6_leaf.2.2.1 zX6_leaf.2.2.2.1 ∈ zG := zmemT 220 rfl rfl
set_option maxRecDepth 100000 in
theorem qX6_node : Cond.code zX6_node.1 zX6_node.2.1 zX6_node.2.2.1 zX6_node.2.2.2.1 ∈ zG := zmemT 262 rfl rfl
set_option maxRecDepth 100000 in
theorem qX6_undo : Cond.code zX6_undo.1 zX6_undo.2.1 zX6_undo.2.2.1 zX6_undo.2.2.2.1 ∈ zG := zmemT 277 rfl rfl
set_option maxRecDepth 100000 in
theorem qX6_means : Cond.code zX6_means.1 zX6_means.2.1 zX6_means.2.2.1 zX6_means.2.2.2.1 ∈ zG := zmemT 289 rfl rfl
set_option maxRecDepth 100000 in
theorem qX6_look : Cond.code zX6_look.1 zX6_look.2.1 zX6_look.2.2.1 zX6_look.2.2.2.1 ∈ zG := zmemT 296 rfl rfl
set_option maxRecDepth 100000 in
theorem qX6_alike : Cond.code zX6_alike.1 zX6_alike.2.1 zX6_alike.2.2.1 zX6_alike.2.2.2.1 ∈ zG := zmemT 307 rfl rfl
set_option maxRecDepth 100000 in
theorem qX6_times : Cond.code zX6_times.1 zX6_times.2.1 zX6_times.2.2.1 zX6_times.2.2.2.1 ∈ zG := zmemT 315 rfl rfl
set_option maxRecDepth 100000 in
theorem qX6_keeps : Cond.code zX6_keeps.1 zX6_keeps.2.1 zX6_keeps.2.2.1 zX6_keeps.2.2.2.1 ∈ zG := zmemT 328 rfl rfl
set_option maxRecDepth 100000 in
theorem qX6_words : Cond.code zX6_words.1 zX6_words.2.1 zX6_words.2.2.1 zX6_words.2.2.2.1 ∈ zG := zmemT 336 rfl rfl
set_option maxRecDepth 100000 in
theorem qX6_word : Cond.code zX6_word.1 zX6_word.2.1 zX6_word.2.2.1 zX6_word.2.2.2.1 ∈ zG := zmemT 377 rfl rfl
set_option maxRecDepth 100000 in
theorem qX6_sound : Cond.code zX6_sound.1 zX6_sound.2.1 zX6_sound.2.2.1 zX6_sound.2.2.2.1 ∈ zG := zmemT 381 rfl rfl
set_option maxRecDepth 100000 in
theorem qX6_clear : Cond.code zX6_clear.1 zX6_clear.2.1 zX6_clear.2.2.1 zX6_clear.2.2.2.1 ∈ zG := zmemT 390 rfl rfl
set_option maxRecDepth 100000 in
theorem qX6_hear : Cond.code zX6_hear.1 zX6_hear.2.1 zX6_hear.2.2.1 zX6_hear.2.2.2.1 ∈ zG := zmemT 395 rfl rfl
set_option maxRecDepth 100000 in
theorem qX6_listen : Cond.code zX6_listen.1 zX6_listen.2.1 zX6_listen.2.2.1 zX6_listen.2.2.2.1 ∈ zG := zmemT 406 rfl rfl
set_option maxRecDepth 100000 in
theorem qX6_hush : Cond.code zX6_hush.1 zX6_hush.2.1 zX6_hush.2.2.1 zX6_hush.2.2.2.1 ∈ zG := zmemT 414 rfl rfl
set_option maxRecDepth 100000 in
theorem qX6_ear : Cond.code zX6_ear.1 zX6_ear.2.1 zX6_ear.2.2.1 zX6_ear.2.2.2.1 ∈ zG := zmemT 418 rfl rfl
set_option maxRecDepth 100000 in
theorem qX6_readings : Cond.code zX6_readings.1 zX6_readings.2.1 zX6_readings.2.2.1 zX6_readings.2.2.2.1 ∈ zG := zmemT 685 rfl rfl
set_option maxRecDepth 100000 in
theorem qX6_write : Cond.code zX6_write.1 zX6_write.2.1 zX6_write.2.2.1 zX6_write.2.2.2.1 ∈ zG := zmemT 422 rfl rfl
set_option maxRecDepth 100000 in
theorem qX6_place : Cond.code zX6_place.1 zX6_place.2.1 zX6_place.2.2.1 zX6_place.2.2.2.1 ∈ zG := zmemT 486 rfl rfl
set_option maxRecDepth 100000 in
theorem qX6_doubt : Cond.code zX6_doubt.1 zX6_doubt.2.1 zX6_doubt.2.2.1 zX6_doubt.2.2.2.1 ∈ zG := zmemT 510 rfl rfl
set_option maxRecDepth 100000 in
theorem qX6_fewest : Cond.code zX6_fewest.1 zX6_fewest.2.1 zX6_fewest.2.2.1 zX6_fewest.2.2.2.1 ∈ zG := zmemT 522 rfl rfl
set_option maxRecDepth 100000 in
theorem qX6_walk : Cond.code zX6_walk.1 zX6_walk.2.1 zX6_walk.2.2.1 zX6_walk.2.2.2.1 ∈ zG := zmemT 530 rfl rfl
set_option maxRecDepth 100000 in
theorem qX6_go : Cond.code zX6_go.1 zX6_go.2.1 zX6_go.2.2.1 zX6_go.2.2.2.1 ∈ zG := zmemT 538 rfl rfl
set_option maxRecDepth 100000 in
theorem qX6_where : Cond.code zX6_where.1 zX6_where.2.1 zX6_where.2.2.1 zX6_where.2.2.2.1 ∈ zG := zmemT 760 rfl rfl
set_option maxRecDepth 100000 in
theorem qX6_lead : Cond.code zX6_lead.1 zX6_lead.2.1 zX6_lead.2.2.1 zX6_lead.2.2.2.1 ∈ zG := zmemT 560 rfl rfl
set_option maxRecDepth 100000 in
theorem qX6_glance : Cond.code zX6_glance.1 zX6_glance.2.1 zX6_glance.2.2.1 zX6_glance.2.2.2.1 ∈ zG := zmemT 573 rfl rfl
set_option maxRecDepth 100000 in
theorem qX6_changed : Cond.code zX6_changed.1 zX6_changed.2.1 zX6_changed.2.2.1 zX6_changed.2.2.2.1 ∈ zG := zmemT 577 rfl rfl
set_option maxRecDepth 100000 in
theorem qX6_exchanged : Cond.code zX6_exchanged.1 zX6_exchanged.2.1 zX6_exchanged.2.2.1 zX6_exchanged.2.2.2.1 ∈ zG := zmemT 589 rfl rfl
set_option maxRecDepth 100000 in
theorem qX6_count : Cond.code zX6_count.1 zX6_count.2.1 zX6_count.2.2.1 zX6_count.2.2.2.1 ∈ zG := zmemT 601 rfl rfl
set_option maxRecDepth 100000 in
theorem qX6_keep : Cond.code zX6_keep.1 zX6_keep.2.1 zX6_keep.2.2.1 zX6_keep.2.2.2.1 ∈ zG := zmemT 611 rfl rfl
set_option maxRecDepth 100000 in
theorem qX6_make : Cond.code zX6_make.1 zX6_make.2.1 zX6_make.2.2.1 zX6_make.2.2.2.1 ∈ zG := zmemT 646 rfl rfl
set_option maxRecDepth 100000 in
theorem qX6_element : Cond.code zX6_element.1 zX6_element.2.1 zX6_element.2.2.1 zX6_element.2.2.2.1 ∈ zG := zmemT 790 rfl rfl
set_option maxRecDepth 100000 in
theorem qX6_copy : Cond.code zX6_copy.1 zX6_copy.2.1 zX6_copy.2.2.1 zX6_copy.2.2.2.1 ∈ zG := zmemT 650 rfl rfl
set_option maxRecDepth 100000 in
theorem qX6_weight : Cond.code zX6_weight.1 zX6_weight.2.1 zX6_weight.2.2.1 zX6_weight.2.2.2.1 ∈ zG := zmemT 665 rfl rfl
set_option maxRecDepth 100000 in
theorem qX6_toss : Cond.code zX6_toss.1 zX6_toss.2.1 zX6_toss.2.2.1 zX6_toss.2.2.2.1 ∈ zG := zmemT 677 rfl rfl
set_option maxRecDepth 100000 in
theorem qX6_isLetter : Cond.code zX6_isLetter.1 zX6_isLetter.2.1 zX6_isLetter.2.2.1 zX6_isLetter.2.2.2.1 ∈ zG := zmemT 269 rfl rfl
set_option maxRecDepth 100000 in
theorem qX6_isStyle : Cond.code zX6_isStyle.1 zX6_isStyle.2.1 zX6_isStyle.2.2.1 zX6_isStyle.2.2.2.1 ∈ zG := zmemT 331 rfl rfl
set_option maxRecDepth 100000 in
theorem qX6_isStyleOrFree : Cond.code zX6_isStyleOrFree.1 zX6_isStyleOrFree.2.1 zX6_isStyleOrFree.2.2.1 zX6_isStyleOrFree.2.2.2.1 ∈ zG := zmemT 425 rfl rfl
set_option maxRecDepth 100000 in
theorem qX6_isShelf : Cond.code zX6_isShelf.1 zX6_isShelf.2.1 zX6_isShelf.2.2.1 zX6_isShelf.2.2.2.1 ∈ zG := zmemT 614 rfl rfl
set_option maxRecDepth 100000 in
theorem qX6_orMissing : Cond.code zX6_orMissing.1 zX6_orMissing.2.1 zX6_orMissing.2.2.1 zX6_orMissing.2.2.2.1 ∈ zG := zmemT 299 rfl rfl
set_option maxRecDepth 100000 in
theorem qX6_digitOf : Cond.code zX6_digitOf.1 zX6_digitOf.2.1 zX6_digitOf.2.2.1 zX6_digitOf.2.2.2.1 ∈ zG := zmemT 398 rfl rfl
set_option maxRecDepth 100000 in
theorem qX6_hearSpeech : Cond.code zX6_hearSpeech.1 zX6_hearSpeech.2.1 zX6_hearSpeech.2.2.1 zX6_hearSpeech.2.2.2.1 ∈ zG := zmemT 410 rfl rfl
set_option maxRecDepth 100000 in
theorem qX6_tallyIn : Cond.code zX6_tallyIn.1 zX6_tallyIn.2.1 zX6_tallyIn.2.2.1 zX6_tallyIn.2.2.2.1 ∈ zG := zmemT 429 rfl rfl
set_option maxRecDepth 100000 in
theorem qX6_keepNode : Cond.code zX6_keepNode.1 zX6_keepNode.2.1 zX6_keepNode.2.2.1 zX6_keepNode.2.2.2.1 ∈ zG := zmemT 626 rfl rfl
set_option maxRecDepth 100000 in
theorem qX6_nodeRefusal : Cond.code zX6_nodeRefusal.1 zX6_nodeRefusal.2.1 zX6_nodeRefusal.2.2.1 zX6_nodeRefusal.2.2.2.1 ∈ zG := zmemT 669 rfl rfl
set_option maxRecDepth 100000 in
theorem qX7_init : Cond.code zX7_init.1 zX7_init.2.1 zX7_init.2.2.1 zX7_init.2.2.2.1 ∈ zG := zmemT 798 rfl rfl
set_option maxRecDepth 100000 in
theorem qX7_thrown : Cond.code zX7_thrown.1 zX7_thrown.2.1 zX7_thrown.2.2.1 zX7_thrown.2.2.2.1 ∈ zG := zmemT 910 rfl rfl
set_option maxRecDepth 100000 in
theorem qX7_in : Cond.code zX7_in.1 zX7_in.2.1 zX7_in.2.2.1 zX7_in.2.2.2.1 ∈ zG := zmemT 917 rfl rfl
set_option maxRecDepth 100000 in
theorem qX7_isNode : Cond.code zX7_isNode.1 zX7_isNode.2.1 zX7_isNode.2.2.1 zX7_isNode.2.2.2.1 ∈ zG := zmemT 932 rfl rfl
set_option maxRecDepth 100000 in
theorem qX7_isTwo : Cond.code zX7_isTwo.1 zX7_isTwo.2.1 zX7_isTwo.2.2.1 zX7_isTwo.2.2.2.1 ∈ zG := zmemT 935 rfl rfl
set_option maxRecDepth 100000 in
theorem qX7_mayKeep : Cond.code zX7_mayKeep.1 zX7_mayKeep.2.1 zX7_mayKeep.2.2.1 zX7_mayKeep.2.2.2.1 ∈ zG := zmemT 979 rfl rfl
set_option maxRecDepth 100000 in
theorem qX7_isStyle : Cond.code zX7_isStyle.1 zX7_isStyle.2.1 zX7_isStyle.2.2.1 zX7_isStyle.2.2.2.1 ∈ zG := zmemT 975 rfl rfl
set_option maxRecDepth 100000 in
theorem qX7_sets : Cond.code zX7_sets.1 zX7_sets.2.1 zX7_sets.2.2.1 zX7_sets.2.2.2.1 ∈ zG := zmemT 923 rfl rfl
set_option maxRecDepth 100000 in
theorem qX7_leaf : Cond.code zX7_leaf.1 zX7_leaf.2.1 zX7_leaf.2.2.1 zX7_leaf.2.2.2.1 ∈ zG := zmemT 914 rfl rfl
set_option maxRecDepth 100000 in
theorem qX7_node : Cond.code zX7_node.1 zX7_node.2.1 zX7_node.2.2.1 zX7_node.2.2.2.1 ∈ zG := zmemT 927 rfl rfl
set_option maxRecDepth 100000 in
theorem qX7_undo : Cond.code zX7_undo.1 zX7_undo.2.1 zX7_undo.2.2.1 zX7_undo.2.2.2.1 ∈ zG := zmemT 939 rfl rfl
set_option maxRecDepth 100000 in
theorem qX7_means : Cond.code zX7_means.1 zX7_means.2.1 zX7_means.2.2.1 zX7_means.2.2.2.1 ∈ zG := zmemT 943 rfl rfl
set_option maxRecDepth 100000 in
theorem qX7_isRight : Cond.code zX7_isRight.1 zX7_isRight.2.1 zX7_isRight.2.2.1 zX7_isRight.2.2.2.1 ∈ zG := zmemT 952 rfl rfl
set_option maxRecDepth 100000 in
theorem qX7_look : Cond.code zX7_look.1 zX7_look.2.1 zX7_look.2.2.1 zX7_look.2.2.2.1 ∈ zG := zmemT 947 rfl rfl
set_option maxRecDepth 100000 in
theorem qX7_areAlike : Cond.code zX7_areAlike.1 zX7_areAlike.2.1 zX7_areAlike.2.2.1 zX7_areAlike.2.2.2.1 ∈ zG := zmemT 960 rfl rfl
set_option maxRecDepth 100000 in
theorem qX7_alike : Cond.code zX7_alike.1 zX7_alike.2.1 zX7_alike.2.2.1 zX7_alike.2.2.2.1 ∈ zG := zmemT 956 rfl rfl
set_option maxRecDepth 100000 in
theorem qX7_has : Cond.code zX7_has.1 zX7_has.2.1 zX7_has.2.2.1 zX7_has.2.2.2.1 ∈ zG := zmemT 968 rfl rfl
set_option maxRecDepth 100000 in
theorem qX7_times : Cond.code zX7_times.1 zX7_times.2.1 zX7_times.2.2.1 zX7_times.2.2.2.1 ∈ zG := zmemT 964 rfl rfl
set_option maxRecDepth 100000 in
theorem qX7_keeps : Cond.code zX7_keeps.1 zX7_keeps.2.1 zX7_keeps.2.2.1 zX7_keeps.2.2.2.1 ∈ zG := zmemT 972 rfl rfl
set_option maxRecDepth 100000 in
theorem qX7_digits : Cond.code zX7_digits.1 zX7_digits.2.1 zX7_digits.2.2.1 zX7_digits.2.2.2.1 ∈ zG := zmemT 994 rfl rfl
set_option maxRecDepth 100000 in
theorem qX7_own : Cond.code zX7_own.1 zX7_own.2.1 zX7_own.2.2.1 zX7_own.2.2.2.1 ∈ zG := zmemT 991 rfl rfl
set_option maxRecDepth 100000 in
theorem qX7_length : Cond.code zX7_length.1 zX7_length.2.1 zX7_length.2.2.1 zX7_length.2.2.2.1 ∈ zG := zmemT 987 rfl rfl
set_option maxRecDepth 100000 in
theorem qX7_says : Cond.code zX7_says.1 zX7_says.2.1 zX7_says.2.2.1 zX7_says.2.2.2.1 ∈ zG := zmemT 1014 rfl rfl
set_option maxRecDepth 100000 in
theorem qX7_keepsIt : Cond.code zX7_keepsIt.1 zX7_keepsIt.2.1 zX7_keepsIt.2.2.1 zX7_keepsIt.2.2.2.1 ∈ zG := zmemT 1010 rfl rfl
set_option maxRecDepth 100000 in
theorem qX7_say : Cond.code zX7_say.1 zX7_say.2.1 zX7_say.2.2.1 zX7_say.2.2.2.1 ∈ zG := zmemT 1006 rfl rfl
set_option maxRecDepth 100000 in
theorem qX7_sayAll : Cond.code zX7_sayAll.1 zX7_sayAll.2.1 zX7_sayAll.2.2.1 zX7_sayAll.2.2.2.1 ∈ zG := zmemT 1002 rfl rfl
set_option maxRecDepth 100000 in
theorem qX7_words : Cond.code zX7_words.1 zX7_words.2.1 zX7_words.2.2.1 zX7_words.2.2.2.1 ∈ zG := zmemT 983 rfl rfl
set_option maxRecDepth 100000 in
theorem qX7_word : Cond.code zX7_word.1 zX7_word.2.1 zX7_word.2.2.1 zX7_word.2.2.2.1 ∈ zG := zmemT 998 rfl rfl
set_option maxRecDepth 100000 in
theorem qX7_sound : Cond.code zX7_sound.1 zX7_sound.2.1 zX7_sound.2.2.1 zX7_sound.2.2.2.1 ∈ zG := zmemT 1018 rfl rfl
set_option maxRecDepth 100000 in
theorem qX7_adds : Cond.code zX7_adds.1 zX7_adds.2.1 zX7_adds.2.2.1 zX7_adds.2.2.2.1 ∈ zG := zmemT 1027 rfl rfl
set_option maxRecDepth 100000 in
theorem qX7_grows : Cond.code zX7_grows.1 zX7_grows.2.1 zX7_grows.2.2.1 zX7_grows.2.2.2.1 ∈ zG := zmemT 1031 rfl rfl
set_option maxRecDepth 100000 in
theorem qX7_isSame : Cond.code zX7_isSame.1 zX7_isSame.2.1 zX7_isSame.2.2.1 zX7_isSame.2.2.2.1 ∈ zG := zmemT 1035 rfl rfl
set_option maxRecDepth 100000 in
theorem qX7_clear : Cond.code zX7_clear.1 zX7_clear.2.1 zX7_clear.2.2.1 zX7_clear.2.2.2.1 ∈ zG := zmemT 1022 rfl rfl
set_option maxRecDepth 100000 in
theorem qX7_hear : Cond.code zX7_hear.1 zX7_hear.2.1 zX7_hear.2.2.1 zX7_hear.2.2.2.1 ∈ zG := zmemT 1039 rfl rfl
set_option maxRecDepth 100000 in
theorem qX7_listen : Cond.code zX7_listen.1 zX7_listen.2.1 zX7_listen.2.2.1 zX7_listen.2.2.2.1 ∈ zG := zmemT 1044 rfl rfl
set_option maxRecDepth 100000 in
theorem qX7_hears : Cond.code zX7_hears.1 zX7_hears.2.1 zX7_hears.2.2.1 zX7_hears.2.2.2.1 ∈ zG := zmemT 1048 rfl rfl
set_option maxRecDepth 100000 in
theorem qX7_hush : Cond.code zX7_hush.1 zX7_hush.2.1 zX7_hush.2.2.1 zX7_hush.2.2.2.1 ∈ zG := zmemT 1052 rfl rfl
set_option maxRecDepth 100000 in
theorem qX7_ear : Cond.code zX7_ear.1 zX7_ear.2.1 zX7_ear.2.2.1 zX7_ear.2.2.2.1 ∈ zG := zmemT 1056 rfl rfl
set_option maxRecDepth 100000 in
theorem qX7_times_ : Cond.code zX7_times_.1 zX7_times_.2.1 zX7_times_.2.2.1 zX7_times_.2.2.2.1 ∈ zG := zmemT 1086 rfl rfl
set_option maxRecDepth 100000 in
theorem qX7_plus : Cond.code zX7_plus.1 zX7_plus.2.1 zX7_plus.2.2.1 zX7_plus.2.2.2.1 ∈ zG := zmemT 1090 rfl rfl
set_option maxRecDepth 100000 in
theorem qX7_isLet : Cond.code zX7_isLet.1 zX7_isLet.2.1 zX7_isLet.2.2.1 zX7_isLet.2.2.2.1 ∈ zG := zmemT 1073 rfl rfl
set_option maxRecDepth 100000 in
theorem qX7_isNumber : Cond.code zX7_isNumber.1 zX7_isNumber.2.1 zX7_isNumber.2.2.1 zX7_isNumber.2.2.2.1 ∈ zG := zmemT 1081 rfl rfl
set_option maxRecDepth 100000 in
theorem qX7_within : Cond.code zX7_within.1 zX7_within.2.1 zX7_within.2.2.1 zX7_within.2.2.2.1 ∈ zG := zmemT 1077 rfl rfl
set_option maxRecDepth 100000 in
theorem qX7_reckons : Cond.code zX7_reckons.1 zX7_reckons.2.1 zX7_reckons.2.2.1 zX7_reckons.2.2.2.1 ∈ zG := zmemT 1069 rfl rfl
set_option maxRecDepth 100000 in
theorem qX7_counted : Cond.code zX7_counted.1 zX7_counted.2.1 zX7_counted.2.2.1 zX7_counted.2.2.2.1 ∈ zG := zmemT 1065 rfl rfl
set_option maxRecDepth 100000 in
theorem qX7_readings : Cond.code zX7_readings.1 zX7_readings.2.1 zX7_readings.2.2.1 zX7_readings.2.2.2.1 ∈ zG := zmemT 1060 rfl rfl
set_option maxRecDepth 100000 in
theorem qX7_makes : Cond.code zX7_makes.1 zX7_makes.2.1 zX7_makes.2.2.1 zX7_makes.2.2.2.1 ∈ zG := zmemT 1102 rfl rfl
set_option maxRecDepth 100000 in
theorem qX7_takes : Cond.code zX7_takes.1 zX7_takes.2.1 zX7_takes.2.2.1 zX7_takes.2.2.2.1 ∈ zG := zmemT 1098 rfl rfl
set_option maxRecDepth 100000 in
theorem qX7_takesTwo : Cond.code zX7_takesTwo.1 zX7_takesTwo.2.1 zX7_takesTwo.2.2.1 zX7_takesTwo.2.2.2.1 ∈ zG := zmemT 1106 rfl rfl
set_option maxRecDepth 100000 in
theorem qX7_write : Cond.code zX7_write.1 zX7_write.2.1 zX7_write.2.2.1 zX7_write.2.2.2.1 ∈ zG := zmemT 1094 rfl rfl
set_option maxRecDepth 100000 in
theorem qX7_copies : Cond.code zX7_copies.1 zX7_copies.2.1 zX7_copies.2.2.1 zX7_copies.2.2.2.1 ∈ zG := zmemT 1110 rfl rfl
set_option maxRecDepth 100000 in
theorem qX7_rank : Cond.code zX7_rank.1 zX7_rank.2.1 zX7_rank.2.2.1 zX7_rank.2.2.2.1 ∈ zG := zmemT 1120 rfl rfl
set_option maxRecDepth 100000 in
theorem qX7_inner : Cond.code zX7_inner.1 zX7_inner.2.1 zX7_inner.2.2.1 zX7_inner.2.2.2.1 ∈ zG := zmemT 1124 rfl rfl
set_option maxRecDepth 100000 in
theorem qX7_innerTwo : Cond.code zX7_innerTwo.1 zX7_innerTwo.2.1 zX7_innerTwo.2.2.1 zX7_innerTwo.2.2.2.1 ∈ zG := zmemT 1128 rfl rfl
set_option maxRecDepth 100000 in
theorem qX7_place : Cond.code zX7_place.1 zX7_place.2.1 zX7_place.2.2.1 zX7_place.2.2.2.1 ∈ zG := zmemT 1114 rfl rfl
set_option maxRecDepth 100000 in
theorem qX7_doubt : Cond.code zX7_doubt.1 zX7_doubt.2.1 zX7_doubt.2.2.1 zX7_doubt.2.2.2.1 ∈ zG := zmemT 1132 rfl rfl
set_option maxRecDepth 100000 in
theorem qX7_keepable : Cond.code zX7_keepable.1 zX7_keepable.2.1 zX7_keepable.2.2.1 zX7_keepable.2.2.2.1 ∈ zG := zmemT 1140 rfl rfl
set_option maxRecDepth 100000 in
theorem qX7_bits : Cond.code zX7_bits.1 zX7_bits.2.1 zX7_bits.2.2.1 zX7_bits.2.2.2.1 ∈ zG := zmemT 1143 rfl rfl
set_option maxRecDepth 100000 in
theorem qX7_fewest : Cond.code zX7_fewest.1 zX7_fewest.2.1 zX7_fewest.2.2.1 zX7_fewest.2.2.2.1 ∈ zG := zmemT 1136 rfl rfl
set_option maxRecDepth 100000 in
theorem qX7_isOnly : Cond.code zX7_isOnly.1 zX7_isOnly.2.1 zX7_isOnly.2.2.1 zX7_isOnly.2.2.2.1 ∈ zG := zmemT 1147 rfl rfl
set_option maxRecDepth 100000 in
theorem qX7_walk : Cond.code zX7_walk.1 zX7_walk.2.1 zX7_walk.2.2.1 zX7_walk.2.2.2.1 ∈ zG := zmemT 1151 rfl rfl
set_option maxRecDepth 100000 in
theorem qX7_down : Cond.code zX7_down.1 zX7_down.2.1 zX7_down.2.2.1 zX7_down.2.2.2.1 ∈ zG := zmemT 1160 rfl rfl
set_option maxRecDepth 100000 in
theorem qX7_go : Cond.code zX7_go.1 zX7_go.2.1 zX7_go.2.2.1 zX7_go.2.2.2.1 ∈ zG := zmemT 1155 rfl rfl
set_option maxRecDepth 100000 in
theorem qX7_where : Cond.code zX7_where.1 zX7_where.2.1 zX7_where.2.2.1 zX7_where.2.2.2.1 ∈ zG := zmemT 1164 rfl rfl
set_option maxRecDepth 100000 in
theorem qX7_lead : Cond.code zX7_lead.1 zX7_lead.2.1 zX7_lead.2.2.1 zX7_lead.2.2.2.1 ∈ zG := zmemT 1168 rfl rfl
set_option maxRecDepth 100000 in
theorem qX7_glanced : Cond.code zX7_glanced.1 zX7_glanced.2.1 zX7_glanced.2.2.1 zX7_glanced.2.2.2.1 ∈ zG := zmemT 1176 rfl rfl
set_option maxRecDepth 100000 in
theorem qX7_glance : Cond.code zX7_glance.1 zX7_glance.2.1 zX7_glance.2.2.1 zX7_glance.2.2.2.1 ∈ zG := zmemT 1172 rfl rfl
set_option maxRecDepth 100000 in
theorem qX7_inside : Cond.code zX7_inside.1 zX7_inside.2.1 zX7_inside.2.2.1 zX7_inside.2.2.2.1 ∈ zG := zmemT 1188 rfl rfl
set_option maxRecDepth 100000 in
theorem qX7_difference : Cond.code zX7_difference.1 zX7_difference.2.1 zX7_difference.2.2.1 zX7_difference.2.2.2.1 ∈ zG := zmemT 1184 rfl rfl
set_option maxRecDepth 100000 in
theorem qX7_wholes : Cond.code zX7_wholes.1 zX7_wholes.2.1 zX7_wholes.2.2.1 zX7_wholes.2.2.2.1 ∈ zG := zmemT 1196 rfl rfl
set_option maxRecDepth 100000 in
theorem qX7_changed : Cond.code zX7_changed.1 zX7_changed.2.1 zX7_changed.2.2.1 zX7_changed.2.2.2.1 ∈ zG := zmemT 1180 rfl rfl
set_option maxRecDepth 100000 in
theorem qX7_exchanged : Cond.code zX7_exchanged.1 zX7_exchanged.2.1 zX7_exchanged.2.2.1 zX7_exchanged.2.2.2.1 ∈ zG := zmemT 1192 rfl rfl
set_option maxRecDepth 100000 in
theorem qX7_functions : Cond.code zX7_functions.1 zX7_functions.2.1 zX7_functions.2.2.1 zX7_functions.2.2.2.1 ∈ zG := zmemT 1204 rfl rfl
set_option maxRecDepth 100000 in
theorem qX7_count : Cond.code zX7_count.1 zX7_count.2.1 zX7_count.2.2.1 zX7_count.2.2.2.1 ∈ zG := zmemT 1200 rfl rfl
set_option maxRecDepth 100000 in
theorem qX7_isShelf : Cond.code zX7_isShelf.1 zX7_isShelf.2.1 zX7_isShelf.2.2.1 zX7_isShelf.2.2.2.1 ∈ zG := zmemT 1211 rfl rfl
set_option maxRecDepth 100000 in
theorem qX7_kinds : Cond.code zX7_kinds.1 zX7_kinds.2.1 zX7_kinds.2.2.1 zX7_kinds.2.2.2.1 ∈ zG := zmemT 1215 rfl rfl
set_option maxRecDepth 100000 in
theorem qX7_keep : Cond.code zX7_keep.1 zX7_keep.2.1 zX7_keep.2.2.1 zX7_keep.2.2.2.1 ∈ zG := zmemT 1208 rfl rfl
set_option maxRecDepth 100000 in
theorem qX7_make : Cond.code zX7_make.1 zX7_make.2.1 zX7_make.2.2.1 zX7_make.2.2.2.1 ∈ zG := zmemT 1219 rfl rfl
set_option maxRecDepth 100000 in
theorem qX7_element : Cond.code zX7_element.1 zX7_element.2.1 zX7_element.2.2.1 zX7_element.2.2.2.1 ∈ zG := zmemT 1223 rfl rfl
set_option maxRecDepth 100000 in
theorem qX7_copy : Cond.code zX7_copy.1 zX7_copy.2.1 zX7_copy.2.2.1 zX7_copy.2.2.2.1 ∈ zG := zmemT 1227 rfl rfl
set_option maxRecDepth 100000 in
theorem qX7_held : Cond.code zX7_held.1 zX7_held.2.1 zX7_held.2.2.1 zX7_held.2.2.2.1 ∈ zG := zmemT 1235 rfl rfl
set_option maxRecDepth 100000 in
theorem qX7_weight : Cond.code zX7_weight.1 zX7_weight.2.1 zX7_weight.2.2.1 zX7_weight.2.2.2.1 ∈ zG := zmemT 1231 rfl rfl
set_option maxRecDepth 100000 in
theorem qX7_toss : Cond.code zX7_toss.1 zX7_toss.2.1 zX7_toss.2.2.1 zX7_toss.2.2.2.1 ∈ zG := zmemT 1239 rfl rfl
set_option maxRecDepth 100000 in
theorem qJ6_bitCount_0f7a4 : Cond.code zJ6_bitCount_0f7a4.1 zJ6_bitCount_0f7a4.2.1 zJ6_bitCount_0f7a4.2.2.1 zJ6_bitCount_0f7a4.2.2.2.1 ∈ zG := zmemT 604 rfl rfl
set_option maxRecDepth 100000 in
theorem qJ9_max_7cf53 : Cond.code zJ9_max_7cf53.1 zJ9_max_7cf53.2.1 zJ9_max_7cf53.2.2.1 zJ9_max_7cf53.2.2.2.1 ∈ zG := zmemT 246 rfl rfl
set_option maxRecDepth 100000 in
theorem qJ9_min_7cf53 : Cond.code zJ9_min_7cf53.1 zJ9_min_7cf53.2.1 zJ9_min_7cf53.2.2.1 zJ9_min_7cf53.2.2.2.1 ∈ zG := zmemT 783 rfl rfl
set_option maxRecDepth 100000 in
theorem qJ9_min_f86c9 : Cond.code zJ9_min_f86c9.1 zJ9_min_f86c9.2.1 zJ9_min_f86c9.2.2.1 zJ9_min_f86c9.2.2.2.1 ∈ zG := zmemT 465 rfl rfl
theorem zms_ok0 : ∀ z ∈ ([zX0_init, zX0_add, zX0_tally, zX0_waysOf, zX0_isBracketed, zX0_bareWays, zX0_kindByEnds, zX0_partFrom, zX0_partTo, zX0_numberIn, zX0_build, zX0_buildSpan, zX0_buildBare, zX0_buildPair, zX0_placeOf, zX0_placeIn, zX0_placeBare, zX0_placePair, zX1_isPair, zX1_isPrefix, zX1_hasBit, zX1_withBit, zX1_isDoubtful, zX2_init, zX2_has, zX2_isFull, zX2_sizeOf, zX2_partOf, zX2_put, zX2_addPart] : List zMt), Cond.code z.1 z.2.1 z.2.2.1 z.2.2.2.1 ∈ zG := List.forall_mem_cons.mpr ⟨qX0_init, List.forall_mem_cons.mpr ⟨qX0_add, List.forall_mem_cons.mpr ⟨qX0_tally, List.forall_mem_cons.mpr ⟨qX0_waysOf, List.forall_mem_cons.mpr ⟨qX0_isBracketed, List.forall_mem_cons.mpr ⟨qX0_bareWays, List.forall_mem_cons.mpr ⟨qX0_kindByEnds, List.forall_mem_cons.mpr ⟨qX0_partFrom, List.forall_mem_cons.mpr ⟨qX0_partTo, List.forall_mem_cons.mpr ⟨qX0_numberIn, List.forall_mem_cons.mpr ⟨qX0_build, List.forall_mem_cons.mpr ⟨qX0_buildSpan, List.forall_mem_cons.mpr ⟨qX0_buildBare, List.forall_mem_cons.mpr ⟨qX0_buildPair, List.forall_mem_cons.mpr ⟨qX0_placeOf, List.forall_mem_cons.mpr ⟨qX0_placeIn, List.forall_mem_cons.mpr ⟨qX0_placeBare, List.forall_mem_cons.mpr ⟨qX0_placePair, List.forall_mem_cons.mpr ⟨qX1_isPair, List.forall_mem_cons.mpr ⟨qX1_isPrefix, List.forall_mem_cons.mpr ⟨qX1_hasBit, List.forall_mem_cons.mpr ⟨qX1_withBit, List.forall_mem_cons.mpr ⟨qX1_isDoubtful, List.forall_mem_cons.mpr ⟨qX2_init, List.forall_mem_cons.mpr ⟨qX2_has, List.forall_mem_cons.mpr ⟨qX2_isFull, List.forall_mem_cons.mpr ⟨qX2_sizeOf, List.forall_mem_cons.mpr ⟨qX2_partOf, List.forall_mem_cons.mpr ⟨qX2_put, List.forall_mem_cons.mpr ⟨qX2_addPart, fun _ h => absurd h List.not_mem_nil⟩⟩⟩⟩⟩⟩⟩⟩⟩⟩⟩⟩⟩⟩⟩⟩⟩⟩⟩⟩⟩⟩⟩⟩⟩⟩⟩⟩⟩⟩
theorem zms_ok1 : ∀ z ∈ ([zX2_ownWords, zX2_firstAlike, zX2_shapeOf, zX2_isSameTop, zX2_isAlike, zX2_isRight, zX2_timesWithin, zX2_tallyOf, zX2_firstUnlike, zX2_differenceOf, zX2_exchangesOf, zX2_layKinds, zX2_difference, zX2_exchanges, zX2_layKindsFrom, zX3_init, zX3_drop, zX3_holdNode, zX3_holdNoughts, zX3_holdRow, zX3_hasRow, zX3_hasSpan, zX3_weighNode, zX4_init, zX4_isTooLong, zX4_sayInStyle, zX4_saySparingly, zX4_isSameAs, zX4_tell, zX4_tellBare] : List zMt), Cond.code z.1 z.2.1 z.2.2.1 z.2.2.2.1 ∈ zG := List.forall_mem_cons.mpr ⟨qX2_ownWords, List.forall_mem_cons.mpr ⟨qX2_firstAlike, List.forall_mem_cons.mpr ⟨qX2_shapeOf, List.forall_mem_cons.mpr ⟨qX2_isSameTop, List.forall_mem_cons.mpr ⟨qX2_isAlike, List.forall_mem_cons.mpr ⟨qX2_isRight, List.forall_mem_cons.mpr ⟨qX2_timesWithin, List.forall_mem_cons.mpr ⟨qX2_tallyOf, List.forall_mem_cons.mpr ⟨qX2_firstUnlike, List.forall_mem_cons.mpr ⟨qX2_differenceOf, List.forall_mem_cons.mpr ⟨qX2_exchangesOf, List.forall_mem_cons.mpr ⟨qX2_layKinds, List.forall_mem_cons.mpr ⟨qX2_difference, List.forall_mem_cons.mpr ⟨qX2_exchanges, List.forall_mem_cons.mpr ⟨qX2_layKindsFrom, List.forall_mem_cons.mpr ⟨qX3_init, List.forall_mem_cons.mpr ⟨qX3_drop, List.forall_mem_cons.mpr ⟨qX3_holdNode, List.forall_mem_cons.mpr ⟨qX3_holdNoughts, List.forall_mem_cons.mpr ⟨qX3_holdRow, List.forall_mem_cons.mpr ⟨qX3_hasRow, List.forall_mem_cons.mpr ⟨qX3_hasSpan, List.forall_mem_cons.mpr ⟨qX3_weighNode, List.forall_mem_cons.mpr ⟨qX4_init, List.forall_mem_cons.mpr ⟨qX4_isTooLong, List.forall_mem_cons.mpr ⟨qX4_sayInStyle, List.forall_mem_cons.mpr ⟨qX4_saySparingly, List.forall_mem_cons.mpr ⟨qX4_isSameAs, List.forall_mem_cons.mpr ⟨qX4_tell, List.forall_mem_cons.mpr ⟨qX4_tellBare, fun _ h => absurd h List.not_mem_nil⟩⟩⟩⟩⟩⟩⟩⟩⟩⟩⟩⟩⟩⟩⟩⟩⟩⟩⟩⟩⟩⟩⟩⟩⟩⟩⟩⟩⟩⟩
theorem zms_ok2 : ∀ z ∈ ([zX4_isPartKept, zX4_addDigits, zX4_add, zX5_init, zX5_isBegun, zX5_top, zX5_here, zX5_beginAt, zX5_stepDown, zX5_stepUp, zX5_stepBeside, zX5_asNumber, zX5_follow, zX5_leadsSomewhere, zX6_init, zX6_leaf, zX6_node, zX6_undo, zX6_means, zX6_look, zX6_alike, zX6_times, zX6_keeps, zX6_words, zX6_word, zX6_sound, zX6_clear, zX6_hear, zX6_listen, zX6_hush] : List zMt), Cond.code z.1 z.2.1 z.2.2.1 z.2.2.2.1 ∈ zG := List.forall_mem_cons.mpr ⟨qX4_isPartKept, List.forall_mem_cons.mpr ⟨qX4_addDigits, List.forall_mem_cons.mpr ⟨qX4_add, List.forall_mem_cons.mpr ⟨qX5_init, List.forall_mem_cons.mpr ⟨qX5_isBegun, List.forall_mem_cons.mpr ⟨qX5_top, List.forall_mem_cons.mpr ⟨qX5_here, List.forall_mem_cons.mpr ⟨qX5_beginAt, List.forall_mem_cons.mpr ⟨qX5_stepDown, List.forall_mem_cons.mpr ⟨qX5_stepUp, List.forall_mem_cons.mpr ⟨qX5_stepBeside, List.forall_mem_cons.mpr ⟨qX5_asNumber, List.forall_mem_cons.mpr ⟨qX5_follow, List.forall_mem_cons.mpr ⟨qX5_leadsSomewhere, List.forall_mem_cons.mpr ⟨qX6_init, List.forall_mem_cons.mpr ⟨qX6_leaf, List.forall_mem_cons.mpr ⟨qX6_node, List.forall_mem_cons.mpr ⟨qX6_undo, List.forall_mem_cons.mpr ⟨qX6_means, List.forall_mem_cons.mpr ⟨qX6_look, List.forall_mem_cons.mpr ⟨qX6_alike, List.forall_mem_cons.mpr ⟨qX6_times, List.forall_mem_cons.mpr ⟨qX6_keeps, List.forall_mem_cons.mpr ⟨qX6_words, List.forall_mem_cons.mpr ⟨qX6_word, List.forall_mem_cons.mpr ⟨qX6_sound, List.forall_mem_cons.mpr ⟨qX6_clear, List.forall_mem_cons.mpr ⟨qX6_hear, List.forall_mem_cons.mpr ⟨qX6_listen, List.forall_mem_cons.mpr ⟨qX6_hush, fun _ h => absurd h List.not_mem_nil⟩⟩⟩⟩⟩⟩⟩⟩⟩⟩⟩⟩⟩⟩⟩⟩⟩⟩⟩⟩⟩⟩⟩⟩⟩⟩⟩⟩⟩⟩
theorem zms_ok3 : ∀ z ∈ ([zX6_ear, zX6_readings, zX6_write, zX6_place, zX6_doubt, zX6_fewest, zX6_walk, zX6_go, zX6_where, zX6_lead, zX6_glance, zX6_changed, zX6_exchanged, zX6_count, zX6_keep, zX6_make, zX6_element, zX6_copy, zX6_weight, zX6_toss, zX6_isLetter, zX6_isStyle, zX6_isStyleOrFree, zX6_isShelf, zX6_orMissing, zX6_digitOf, zX6_hearSpeech, zX6_tallyIn, zX6_keepNode, zX6_nodeRefusal] : List zMt), Cond.code z.1 z.2.1 z.2.2.1 z.2.2.2.1 ∈ zG := List.forall_mem_cons.mpr ⟨qX6_ear, List.forall_mem_cons.mpr ⟨qX6_readings, List.forall_mem_cons.mpr ⟨qX6_write, List.forall_mem_cons.mpr ⟨qX6_place, List.forall_mem_cons.mpr ⟨qX6_doubt, List.forall_mem_cons.mpr ⟨qX6_fewest, List.forall_mem_cons.mpr ⟨qX6_walk, List.forall_mem_cons.mpr ⟨qX6_go, List.forall_mem_cons.mpr ⟨qX6_where, List.forall_mem_cons.mpr ⟨qX6_lead, List.forall_mem_cons.mpr ⟨qX6_glance, List.forall_mem_cons.mpr ⟨qX6_changed, List.forall_mem_cons.mpr ⟨qX6_exchanged, List.forall_mem_cons.mpr ⟨qX6_count, List.forall_mem_cons.mpr ⟨qX6_keep, List.forall_mem_cons.mpr ⟨qX6_make, List.forall_mem_cons.mpr ⟨qX6_element, List.forall_mem_cons.mpr ⟨qX6_copy, List.forall_mem_cons.mpr ⟨qX6_weight, List.forall_mem_cons.mpr ⟨qX6_toss, List.forall_mem_cons.mpr ⟨qX6_isLetter, List.forall_mem_cons.mpr ⟨qX6_isStyle, List.forall_mem_cons.mpr ⟨qX6_isStyleOrFree, List.forall_mem_cons.mpr ⟨qX6_isShelf, List.forall_mem_cons.mpr ⟨qX6_orMissing, List.forall_mem_cons.mpr ⟨qX6_digitOf, List.forall_mem_cons.mpr ⟨qX6_hearSpeech, List.forall_mem_cons.mpr ⟨qX6_tallyIn, List.forall_mem_cons.mpr ⟨qX6_keepNode, List.forall_mem_cons.mpr ⟨qX6_nodeRefusal, fun _ h => absurd h List.not_mem_nil⟩⟩⟩⟩⟩⟩⟩⟩⟩⟩⟩⟩⟩⟩⟩⟩⟩⟩⟩⟩⟩⟩⟩⟩⟩⟩⟩⟩⟩⟩
theorem zms_ok4 : ∀ z ∈ ([zX7_init, zX7_thrown, zX7_in, zX7_isNode, zX7_isTwo, zX7_mayKeep, zX7_isStyle, zX7_sets, zX7_leaf, zX7_node, zX7_undo, zX7_means, zX7_isRight, zX7_look, zX7_areAlike, zX7_alike, zX7_has, zX7_times, zX7_keeps, zX7_digits, zX7_own, zX7_length, zX7_says, zX7_keepsIt, zX7_say, zX7_sayAll, zX7_words, zX7_word, zX7_sound, zX7_adds] : List zMt), Cond.code z.1 z.2.1 z.2.2.1 z.2.2.2.1 ∈ zG := List.forall_mem_cons.mpr ⟨qX7_init, List.forall_mem_cons.mpr ⟨qX7_thrown, List.forall_mem_cons.mpr ⟨qX7_in, List.forall_mem_cons.mpr ⟨qX7_isNode, List.forall_mem_cons.mpr ⟨qX7_isTwo, List.forall_mem_cons.mpr ⟨qX7_mayKeep, List.forall_mem_cons.mpr ⟨qX7_isStyle, List.forall_mem_cons.mpr ⟨qX7_sets, List.forall_mem_cons.mpr ⟨qX7_leaf, List.forall_mem_cons.mpr ⟨qX7_node, List.forall_mem_cons.mpr ⟨qX7_undo, List.forall_mem_cons.mpr ⟨qX7_means, List.forall_mem_cons.mpr ⟨qX7_isRight, List.forall_mem_cons.mpr ⟨qX7_look, List.forall_mem_cons.mpr ⟨qX7_areAlike, List.forall_mem_cons.mpr ⟨qX7_alike, List.forall_mem_cons.mpr ⟨qX7_has, List.forall_mem_cons.mpr ⟨qX7_times, List.forall_mem_cons.mpr ⟨qX7_keeps, List.forall_mem_cons.mpr ⟨qX7_digits, List.forall_mem_cons.mpr ⟨qX7_own, List.forall_mem_cons.mpr ⟨qX7_length, List.forall_mem_cons.mpr ⟨qX7_says, List.forall_mem_cons.mpr ⟨qX7_keepsIt, List.forall_mem_cons.mpr ⟨qX7_say, List.forall_mem_cons.mpr ⟨qX7_sayAll, List.forall_mem_cons.mpr ⟨qX7_words, List.forall_mem_cons.mpr ⟨qX7_word, List.forall_mem_cons.mpr ⟨qX7_sound, List.forall_mem_cons.mpr ⟨qX7_adds, fun _ h => absurd h List.not_mem_nil⟩⟩⟩⟩⟩⟩⟩⟩⟩⟩⟩⟩⟩⟩⟩⟩⟩⟩⟩⟩⟩⟩⟩⟩⟩⟩⟩⟩⟩⟩
theorem zms_ok5 : ∀ z ∈ ([zX7_grows, zX7_isSame, zX7_clear, zX7_hear, zX7_listen, zX7_hears, zX7_hush, zX7_ear, zX7_times_, zX7_plus, zX7_isLet, zX7_isNumber, zX7_within, zX7_reckons, zX7_counted, zX7_readings, zX7_makes, zX7_takes, zX7_takesTwo, zX7_write, zX7_copies, zX7_rank, zX7_inner, zX7_innerTwo, zX7_place, zX7_doubt, zX7_keepable, zX7_bits, zX7_fewest, zX7_isOnly] : List zMt), Cond.code z.1 z.2.1 z.2.2.1 z.2.2.2.1 ∈ zG := List.forall_mem_cons.mpr ⟨qX7_grows, List.forall_mem_cons.mpr ⟨qX7_isSame, List.forall_mem_cons.mpr ⟨qX7_clear, List.forall_mem_cons.mpr ⟨qX7_hear, List.forall_mem_cons.mpr ⟨qX7_listen, List.forall_mem_cons.mpr ⟨qX7_hears, List.forall_mem_cons.mpr ⟨qX7_hush, List.forall_mem_cons.mpr ⟨qX7_ear, List.forall_mem_cons.mpr ⟨qX7_times_, List.forall_mem_cons.mpr ⟨qX7_plus, List.forall_mem_cons.mpr ⟨qX7_isLet, List.forall_mem_cons.mpr ⟨qX7_isNumber, List.forall_mem_cons.mpr ⟨qX7_within, List.forall_mem_cons.mpr ⟨qX7_reckons, List.forall_mem_cons.mpr ⟨qX7_counted, List.forall_mem_cons.mpr ⟨qX7_readings, List.forall_mem_cons.mpr ⟨qX7_makes, List.forall_mem_cons.mpr ⟨qX7_takes, List.forall_mem_cons.mpr ⟨qX7_takesTwo, List.forall_mem_cons.mpr ⟨qX7_write, List.forall_mem_cons.mpr ⟨qX7_copies, List.forall_mem_cons.mpr ⟨qX7_rank, List.forall_mem_cons.mpr ⟨qX7_inner, List.forall_mem_cons.mpr ⟨qX7_innerTwo, List.forall_mem_cons.mpr ⟨qX7_place, List.forall_mem_cons.mpr ⟨qX7_doubt, List.forall_mem_cons.mpr ⟨qX7_keepable, List.forall_mem_cons.mpr ⟨qX7_bits, List.forall_mem_cons.mpr ⟨qX7_fewest, List.forall_mem_cons.mpr ⟨qX7_isOnly, fun _ h => absurd h List.not_mem_nil⟩⟩⟩⟩⟩⟩⟩⟩⟩⟩⟩⟩⟩⟩⟩⟩⟩⟩⟩⟩⟩⟩⟩⟩⟩⟩⟩⟩⟩⟩
theorem zms_ok6 : ∀ z ∈ ([zX7_walk, zX7_down, zX7_go, zX7_where, zX7_lead, zX7_glanced, zX7_glance, zX7_inside, zX7_difference, zX7_wholes, zX7_changed, zX7_exchanged, zX7_functions, zX7_count, zX7_isShelf, zX7_kinds, zX7_keep, zX7_make, zX7_element, zX7_copy, zX7_held, zX7_weight, zX7_toss, zJ6_bitCount_0f7a4, zJ9_max_7cf53, zJ9_min_7cf53, zJ9_min_f86c9] : List zMt), Cond.code z.1 z.2.1 z.2.2.1 z.2.2.2.1 ∈ zG := List.forall_mem_cons.mpr ⟨qX7_walk, List.forall_mem_cons.mpr ⟨qX7_down, List.forall_mem_cons.mpr ⟨qX7_go, List.forall_mem_cons.mpr ⟨qX7_where, List.forall_mem_cons.mpr ⟨qX7_lead, List.forall_mem_cons.mpr ⟨qX7_glanced, List.forall_mem_cons.mpr ⟨qX7_glance, List.forall_mem_cons.mpr ⟨qX7_inside, List.forall_mem_cons.mpr ⟨qX7_difference, List.forall_mem_cons.mpr ⟨qX7_wholes, List.forall_mem_cons.mpr ⟨qX7_changed, List.forall_mem_cons.mpr ⟨qX7_exchanged, List.forall_mem_cons.mpr ⟨qX7_functions, List.forall_mem_cons.mpr ⟨qX7_count, List.forall_mem_cons.mpr ⟨qX7_isShelf, List.forall_mem_cons.mpr ⟨qX7_kinds, List.forall_mem_cons.mpr ⟨qX7_keep, List.forall_mem_cons.mpr ⟨qX7_make, List.forall_mem_cons.mpr ⟨qX7_element, List.forall_mem_cons.mpr ⟨qX7_copy, List.forall_mem_cons.mpr ⟨qX7_held, List.forall_mem_cons.mpr ⟨qX7_weight, List.forall_mem_cons.mpr ⟨qX7_toss, List.forall_mem_cons.mpr ⟨qJ6_bitCount_0f7a4, List.forall_mem_cons.mpr ⟨qJ9_max_7cf53, List.forall_mem_cons.mpr ⟨qJ9_min_7cf53, List.forall_mem_cons.mpr ⟨qJ9_min_f86c9, fun _ h => absurd h List.not_mem_nil⟩⟩⟩⟩⟩⟩⟩⟩⟩⟩⟩⟩⟩⟩⟩⟩⟩⟩⟩⟩⟩⟩⟩⟩⟩⟩⟩
theorem zms_ok : ∀ z ∈ zms, Cond.code z.1 z.2.1 z.2.2.1 z.2.2.2.1 ∈ zG := by
  show ∀ z ∈ ([zX0_init, zX0_add, zX0_tally, zX0_waysOf, zX0_isBracketed, zX0_bareWays, zX0_kindByEnds, zX0_partFrom, zX0_partTo, zX0_numberIn, zX0_build, zX0_buildSpan, zX0_buildBare, zX0_buildPair, zX0_placeOf, zX0_placeIn, zX0_placeBare, zX0_placePair, zX1_isPair, zX1_isPrefix, zX1_hasBit, zX1_withBit, zX1_isDoubtful, zX2_init, zX2_has, zX2_isFull, zX2_sizeOf, zX2_partOf, zX2_put, zX2_addPart] : List zMt) ++ (([zX2_ownWords, zX2_firstAlike, zX2_shapeOf, zX2_isSameTop, zX2_isAlike, zX2_isRight, zX2_timesWithin, zX2_tallyOf, zX2_firstUnlike, zX2_differenceOf, zX2_exchangesOf, zX2_layKinds, zX2_difference, zX2_exchanges, zX2_layKindsFrom, zX3_init, zX3_drop, zX3_holdNode, zX3_holdNoughts, zX3_holdRow, zX3_hasRow, zX3_hasSpan, zX3_weighNode, zX4_init, zX4_isTooLong, zX4_sayInStyle, zX4_saySparingly, zX4_isSameAs, zX4_tell, zX4_tellBare] : List zMt) ++ (([zX4_isPartKept, zX4_addDigits, zX4_add, zX5_init, zX5_isBegun, zX5_top, zX5_here, zX5_beginAt, zX5_stepDown, zX5_stepUp, zX5_stepBeside, zX5_asNumber, zX5_follow, zX5_leadsSomewhere, zX6_init, zX6_leaf, zX6_node, zX6_undo, zX6_means, zX6_look, zX6_alike, zX6_times, zX6_keeps, zX6_words, zX6_word, zX6_sound, zX6_clear, zX6_hear, zX6_listen, zX6_hush] : List zMt) ++ (([zX6_ear, zX6_readings, zX6_write, zX6_place, zX6_doubt, zX6_fewest, zX6_walk, zX6_go, zX6_where, zX6_lead, zX6_glance, zX6_changed, zX6_exchanged, zX6_count, zX6_keep, zX6_make, zX6_element, zX6_copy, zX6_weight, zX6_toss, zX6_isLetter, zX6_isStyle, zX6_isStyleOrFree, zX6_isShelf, zX6_orMissing, zX6_digitOf, zX6_hearSpeech, zX6_tallyIn, zX6_keepNode, zX6_nodeRefusal] : List zMt) ++ (([zX7_init, zX7_thrown, zX7_in, zX7_isNode, zX7_isTwo, zX7_mayKeep, zX7_isStyle, zX7_sets, zX7_leaf, zX7_node, zX7_undo, zX7_means, zX7_isRight, zX7_look, zX7_areAlike, zX7_alike, zX7_has, zX7_times, zX7_keeps, zX7_digits, zX7_own, zX7_length, zX7_says, zX7_keepsIt, zX7_say, zX7_sayAll, zX7_words, zX7_word, zX7_sound, zX7_adds] : List zMt) ++ (([zX7_grows, zX7_isSame, zX7_clear, zX7_hear, zX7_listen, zX7_hears, zX7_hush, zX7_ear, zX7_times_, zX7_plus, zX7_isLet, zX7_isNumber, zX7_within, zX7_reckons, zX7_counted, zX7_readings, zX7_makes, zX7_takes, zX7_takesTwo, zX7_write, zX7_copies, zX7_rank, zX7_inner, zX7_innerTwo, zX7_place, zX7_doubt, zX7_keepable, zX7_bits, zX7_fewest, zX7_isOnly] : List zMt) ++ (([zX7_walk, zX7_down, zX7_go, zX7_where, zX7_lead, zX7_glanced, zX7_glance, zX7_inside, zX7_difference, zX7_wholes, zX7_changed, zX7_exchanged, zX7_functions, zX7_count, zX7_isShelf, zX7_kinds, zX7_keep, zX7_make, zX7_element, zX7_copy, zX7_held, zX7_weight, zX7_toss, zJ6_bitCount_0f7a4, zJ9_max_7cf53, zJ9_min_7cf53, zJ9_min_f86c9] : List zMt))))))), Cond.code z.1 z.2.1 z.2.2.1 z.2.2.2.1 ∈ zG
  exact List.forall_mem_append.mpr ⟨zms_ok0, List.forall_mem_append.mpr ⟨zms_ok1, List.forall_mem_append.mpr ⟨zms_ok2, List.forall_mem_append.mpr ⟨zms_ok3, List.forall_mem_append.mpr ⟨zms_ok4, List.forall_mem_append.mpr ⟨zms_ok5, zms_ok6⟩⟩⟩⟩⟩⟩
