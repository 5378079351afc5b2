/-! METHODS and CALLS, by the entry of the constant pool (by program, wip/whole/gen/calls.py) -/
theorem zTb0 {w : Cond} (i : Nat) (h : (k2_sels lw_privs)[i]? = some w) (hg : goodWord w = true := by rfl) : w ∈ zTs := zTs_of (List.mem_append_left _ (List.mem_of_getElem? h)) hg
theorem zTb1 {w : Cond} (i : Nat) (h : tables_1_1[i]? = some w) (hg : goodWord w = true) : w ∈ zTs := zTs_of (List.mem_append_right _ (by unfold tables_1; exact List.mem_append_left _ (List.mem_of_getElem? h))) hg
theorem zTb2 {w : Cond} (i : Nat) (h : tables_1_2[i]? = some w) (hg : goodWord w = true) : w ∈ zTs := zTs_of (List.mem_append_right _ (by unfold tables_1; exact List.mem_append_right _ (List.mem_append_left _ (List.mem_of_getElem? h)))) hg
theorem zTb3 {w : Cond} (i : Nat) (h : tables_1_3[i]? = some w) (hg : goodWord w = true) : w ∈ zTs := zTs_of (List.mem_append_right _ (by unfold tables_1; exact List.mem_append_right _ (List.mem_append_right _ (List.mem_append_left _ (List.mem_of_getElem? h))))) hg
theorem zTb4 {w : Cond} (i : Nat) (h : tables_1_4[i]? = some w) (hg : goodWord w = true) : w ∈ zTs := zTs_of (List.mem_append_right _ (by unfold tables_1; exact List.mem_append_right _ (List.mem_append_right _ (List.mem_append_right _ (List.mem_append_left _ (List.mem_of_getElem? h)))))) hg
theorem zTb5 {w : Cond} (i : Nat) (h : tables_1_5[i]? = some w) (hg : goodWord w = true) : w ∈ zTs := zTs_of (List.mem_append_right _ (by unfold tables_1; exact List.mem_append_right _ (List.mem_append_right _ (List.mem_append_right _ (List.mem_append_right _ (List.mem_append_left _ (List.mem_of_getElem? h))))))) hg
theorem zTb6 {w : Cond} (i : Nat) (h : tables_1_6[i]? = some w) (hg : goodWord w = true) : w ∈ zTs := zTs_of (List.mem_append_right _ (by unfold tables_1; exact List.mem_append_right _ (List.mem_append_right _ (List.mem_append_right _ (List.mem_append_right _ (List.mem_append_right _ (List.mem_append_left _ (List.mem_of_getElem? h)))))))) hg
theorem zTb7 {w : Cond} (i : Nat) (h : tables_1_7[i]? = some w) (hg : goodWord w = true) : w ∈ zTs := zTs_of (List.mem_append_right _ (by unfold tables_1; exact List.mem_append_right _ (List.mem_append_right _ (List.mem_append_right _ (List.mem_append_right _ (List.mem_append_right _ (List.mem_append_right _ (List.mem_append_left _ (List.mem_of_getElem? h))))))))) hg
theorem zTb8 {w : Cond} (i : Nat) (h : tables_1_8[i]? = some w) (hg : goodWord w = true) : w ∈ zTs := zTs_of (List.mem_append_right _ (by unfold tables_1; exact List.mem_append_right _ (List.mem_append_right _ (List.mem_append_right _ (List.mem_append_right _ (List.mem_append_right _ (List.mem_append_right _ (List.mem_append_right _ (List.mem_of_getElem? h))))))))) hg
abbrev mX5_feed : zM := (yX5_feed, cX5_feed, 6, (some .int))
abbrev mX5_append : zM := (yX5_append, cX5_append, 3, none)
abbrev mX5_court : zM := (yX5_court, cX5_court, 3, (some .int))
abbrev mX5_fault : zM := (yX5_fault, cX5_fault, 1, (some .int))
abbrev mX5_count : zM := (yX5_count, cX5_count, 2, (some .int))
abbrev mX5_surveyed : zM := (yX5_surveyed, cX5_surveyed, 2, (some .int))
abbrev mX5_leaf : zM := (yX5_leaf, cX5_leaf, 3, (some .int))
abbrev mX5_judge : zM := (yX5_judge, cX5_judge, 3, (some .int))
abbrev mX5_partyOf : zM := (yX5_partyOf, cX5_partyOf, 4, (some .int))
abbrev mX5_seat : zM := (yX5_seat, cX5_seat, 2, (some .int))
abbrev mX5_heap : zM := (yX5_heap, cX5_heap, 4, (some .int))
abbrev mX5_weight : zM := (yX5_weight, cX5_weight, 4, (some .int))
abbrev mX5_apart : zM := (yX5_apart, cX5_apart, 4, (some .int))
abbrev mX5_stir : zM := (yX5_stir, cX5_stir, 4, (some .int))
abbrev mX5_needLeaf : zM := (yX5_needLeaf, cX5_needLeaf, 2, none)
abbrev mX5_needJudge : zM := (yX5_needJudge, cX5_needJudge, 2, none)
abbrev mX5_needPlace : zM := (yX5_needPlace, cX5_needPlace, 1, none)
abbrev mX5_needVerdict : zM := (yX5_needVerdict, cX5_needVerdict, 1, none)
abbrev mX5_needWhat : zM := (yX5_needWhat, cX5_needWhat, 2, none)
abbrev mX5_needWithin : zM := (yX5_needWithin, cX5_needWithin, 3, none)
abbrev mX5_cases : zM := (yX5_cases, cX5_cases, 3, (some .int))
abbrev mX5_change : zM := (yX5_change, cX5_change, 3, (some .boolean))
abbrev mX5_hand : zM := (yX5_hand, cX5_hand, 4, (some .int))
abbrev mX5_pot : zM := (yX5_pot, cX5_pot, 3, (some .int))
abbrev mX5_put : zM := (yX5_put, cX5_put, 4, (some .int))
abbrev mX5_undo : zM := (yX5_undo, cX5_undo, 1, (some .int))
abbrev mX5_startTrial : zM := (yX5_startTrial, cX5_startTrial, 1, none)
abbrev mX5_goAhead : zM := (yX5_goAhead, cX5_goAhead, 3, none)
abbrev mX5_verdict : zM := (yX5_verdict, cX5_verdict, 3, (some .int))
abbrev mX5_lies : zM := (yX5_lies, cX5_lies, 3, (some .int))
abbrev mX5_often : zM := (yX5_often, cX5_often, 5, (some .int))
abbrev mX5_nextVerdict : zM := (yX5_nextVerdict, cX5_nextVerdict, 1, (some .int))
abbrev mX5_first : zM := (yX5_first, cX5_first, 3, (some .int))
abbrev mX5_round : zM := (yX5_round, cX5_round, 2, (some .int))
abbrev mX5_pleased : zM := (yX5_pleased, cX5_pleased, 5, (some .int))
abbrev mX5_thirstiest : zM := (yX5_thirstiest, cX5_thirstiest, 4, (some .int))
abbrev mX5_clearTally : zM := (yX5_clearTally, cX5_clearTally, 2, none)
abbrev mX5_mostInTally : zM := (yX5_mostInTally, cX5_mostInTally, 4, (some .int))
abbrev mX5_swept : zM := (yX5_swept, cX5_swept, 4, (some .int))
abbrev mX5_drunk : zM := (yX5_drunk, cX5_drunk, 3, (some .int))
abbrev mX5_streak : zM := (yX5_streak, cX5_streak, 7, (some .int))
abbrev mX5_come : zM := (yX5_come, cX5_come, 4, (some .int))
abbrev mX5_orders : zM := (yX5_orders, cX5_orders, 6, (some .int))
abbrev mX5_startOrder : zM := (yX5_startOrder, cX5_startOrder, 2, none)
abbrev mX5_verdictByOrder : zM := (yX5_verdictByOrder, cX5_verdictByOrder, 2, (some .int))
abbrev mX5_nextOrder : zM := (yX5_nextOrder, cX5_nextOrder, 6, (some .boolean))
abbrev mX5_swapInOrder : zM := (yX5_swapInOrder, cX5_swapInOrder, 4, none)
abbrev mX5_decisive : zM := (yX5_decisive, cX5_decisive, 4, (some .int))
abbrev mX5_verdictIfTurned : zM := (yX5_verdictIfTurned, cX5_verdictIfTurned, 3, (some .int))
abbrev mX5_toTurn : zM := (yX5_toTurn, cX5_toTurn, 5, (some .int))
abbrev mX5_toDrink : zM := (yX5_toDrink, cX5_toDrink, 4, (some .int))
abbrev mX5_toPour : zM := (yX5_toPour, cX5_toPour, 3, (some .int))
abbrev mX5_toLay : zM := (yX5_toLay, cX5_toLay, 4, (some .int))
abbrev mX5_better : zM := (yX5_better, cX5_better, 4, (some .int))
abbrev mX5_read : zM := (yX5_read, cX5_read, 3, (some .int))
abbrev mX5_forget : zM := (yX5_forget, cX5_forget, 1, none)
abbrev mX5_handed : zM := (yX5_handed, cX5_handed, 5, (some .int))
abbrev mX5_isHanded : zM := (yX5_isHanded, cX5_isHanded, 3, (some .boolean))
abbrev mX5_trialIsAsRead : zM := (yX5_trialIsAsRead, cX5_trialIsAsRead, 3, (some .boolean))
abbrev mX5_look : zM := (yX5_look, cX5_look, 4, (some .int))
abbrev mX5_noteIfAsRead : zM := (yX5_noteIfAsRead, cX5_noteIfAsRead, 4, none)
abbrev mX5_game : zM := (yX5_game, cX5_game, 6, (some .int))
abbrev mX5_rests : zM := (yX5_rests, cX5_rests, 4, (some .boolean))
abbrev mX5_gain : zM := (yX5_gain, cX5_gain, 5, (some .int))
abbrev mX5_years : zM := (yX5_years, cX5_years, 7, (some .int))
abbrev mX5_befall : zM := (yX5_befall, cX5_befall, 2, none)
abbrev mX5_draw : zM := (yX5_draw, cX5_draw, 2, (some .int))
abbrev mX5_image : zM := (yX5_image, cX5_image, 1, none)
abbrev mX5_restore : zM := (yX5_restore, cX5_restore, 1, (some .boolean))
abbrev mX6_thrown : zM := (yX6_thrown, cX6_thrown, 1, (some .int))
abbrev mX6_fail : zM := (yX6_fail, cX6_fail, 2, (some .int))
abbrev mX6_failing : zM := (yX6_failing, cX6_failing, 2, (some .boolean))
abbrev mX6_isIn : zM := (yX6_isIn, cX6_isIn, 6, (some .boolean))
abbrev mX6_isOf : zM := (yX6_isOf, cX6_isOf, 2, (some .boolean))
abbrev mX6_bitsOf : zM := (yX6_bitsOf, cX6_bitsOf, 3, (some .int))
abbrev mX6_ringOf : zM := (yX6_ringOf, cX6_ringOf, 3, (some .int))
abbrev mX6_isLeaf : zM := (yX6_isLeaf, cX6_isLeaf, 2, (some .boolean))
abbrev mX6_isJudge : zM := (yX6_isJudge, cX6_isJudge, 2, (some .boolean))
abbrev mX6_isVerdict : zM := (yX6_isVerdict, cX6_isVerdict, 1, (some .boolean))
abbrev mX6_isPlace : zM := (yX6_isPlace, cX6_isPlace, 1, (some .boolean))
abbrev mX6_feed : zM := (yX6_feed, cX6_feed, 8, (some .int))
abbrev mX6_byteAt : zM := (yX6_byteAt, cX6_byteAt, 2, (some .int))
abbrev mX6_isLetter : zM := (yX6_isLetter, cX6_isLetter, 1, (some .boolean))
abbrev mX6_isDigit : zM := (yX6_isDigit, cX6_isDigit, 1, (some .boolean))
abbrev mX6_isMark : zM := (yX6_isMark, cX6_isMark, 1, (some .boolean))
abbrev mX6_stepOn : zM := (yX6_stepOn, cX6_stepOn, 2, none)
abbrev mX6_wrong : zM := (yX6_wrong, cX6_wrong, 2, none)
abbrev mX6_is : zM := (yX6_is, cX6_is, 4, (some .boolean))
abbrev mX6_which : zM := (yX6_which, cX6_which, 3, (some .int))
abbrev mX6_isMarked : zM := (yX6_isMarked, cX6_isMarked, 2, (some .boolean))
abbrev mX6_mark : zM := (yX6_mark, cX6_mark, 2, none)
abbrev mX6_readNumber : zM := (yX6_readNumber, cX6_readNumber, 4, (some .int))
abbrev mX6_lay : zM := (yX6_lay, cX6_lay, 4, none)
abbrev mX6_readPart : zM := (yX6_readPart, cX6_readPart, 3, none)
abbrev mX6_readProduct : zM := (yX6_readProduct, cX6_readProduct, 3, none)
abbrev mX6_readSum : zM := (yX6_readSum, cX6_readSum, 3, none)
abbrev mX6_readNot : zM := (yX6_readNot, cX6_readNot, 4, none)
abbrev mX6_readAnd : zM := (yX6_readAnd, cX6_readAnd, 2, none)
abbrev mX6_readExpression : zM := (yX6_readExpression, cX6_readExpression, 3, none)
abbrev mX6_another : zM := (yX6_another, cX6_another, 3, (some .boolean))
abbrev mX6_sayLeaf : zM := (yX6_sayLeaf, cX6_sayLeaf, 2, none)
abbrev mX6_sayJudge : zM := (yX6_sayJudge, cX6_sayJudge, 3, none)
abbrev mX6_sayOnce : zM := (yX6_sayOnce, cX6_sayOnce, 2, none)
abbrev mX6_readLine : zM := (yX6_readLine, cX6_readLine, 4, (some .int))
abbrev mX6_court : zM := (yX6_court, cX6_court, 3, (some .int))
abbrev mX6_takeHalf : zM := (yX6_takeHalf, cX6_takeHalf, 2, none)
abbrev mX6_takeOver : zM := (yX6_takeOver, cX6_takeOver, 3, none)
abbrev mX6_fault : zM := (yX6_fault, cX6_fault, 1, (some .int))
abbrev mX6_pack : zM := (yX6_pack, cX6_pack, 4, none)
abbrev mX6_unpack : zM := (yX6_unpack, cX6_unpack, 4, none)
abbrev mX6_reckon : zM := (yX6_reckon, cX6_reckon, 3, (some .int))
abbrev mX6_valueNow : zM := (yX6_valueNow, cX6_valueNow, 6, (some .int))
abbrev mX6_heapAt : zM := (yX6_heapAt, cX6_heapAt, 4, (some .int))
abbrev mX6_fullest : zM := (yX6_fullest, cX6_fullest, 3, (some .int))
abbrev mX6_mostNow : zM := (yX6_mostNow, cX6_mostNow, 1, (some .int))
abbrev mX6_oddNow : zM := (yX6_oddNow, cX6_oddNow, 3, (some .int))
abbrev mX6_ask : zM := (yX6_ask, cX6_ask, 1, none)
abbrev mX6_drink : zM := (yX6_drink, cX6_drink, 4, none)
abbrev mX6_stirred : zM := (yX6_stirred, cX6_stirred, 4, (some .int))
abbrev mX6_blow : zM := (yX6_blow, cX6_blow, 2, none)
abbrev mX6_aCase : zM := (yX6_aCase, cX6_aCase, 4, none)
abbrev mX6_goOn : zM := (yX6_goOn, cX6_goOn, 3, none)
abbrev mX6_nextVerdict : zM := (yX6_nextVerdict, cX6_nextVerdict, 2, (some .int))
abbrev mX6_gapNow : zM := (yX6_gapNow, cX6_gapNow, 4, (some .int))
abbrev mX6_count : zM := (yX6_count, cX6_count, 2, (some .int))
abbrev mX6_leaf : zM := (yX6_leaf, cX6_leaf, 3, (some .int))
abbrev mX6_seatOf : zM := (yX6_seatOf, cX6_seatOf, 3, (some .int))
abbrev mX6_partyOf : zM := (yX6_partyOf, cX6_partyOf, 4, (some .int))
abbrev mX6_judge : zM := (yX6_judge, cX6_judge, 3, (some .int))
abbrev mX6_seat : zM := (yX6_seat, cX6_seat, 2, (some .int))
abbrev mX6_heap : zM := (yX6_heap, cX6_heap, 2, (some .int))
abbrev mX6_weight : zM := (yX6_weight, cX6_weight, 4, (some .int))
abbrev mX6_refuse : zM := (yX6_refuse, cX6_refuse, 2, (some .int))
abbrev mX6_keep : zM := (yX6_keep, cX6_keep, 2, none)
abbrev mX6_cases : zM := (yX6_cases, cX6_cases, 2, (some .int))
abbrev mX6_swap : zM := (yX6_swap, cX6_swap, 5, none)
abbrev mX6_change : zM := (yX6_change, cX6_change, 3, (some .boolean))
abbrev mX6_hand : zM := (yX6_hand, cX6_hand, 4, (some .int))
abbrev mX6_pot : zM := (yX6_pot, cX6_pot, 3, (some .int))
abbrev mX6_put : zM := (yX6_put, cX6_put, 4, (some .int))
abbrev mX6_undo : zM := (yX6_undo, cX6_undo, 1, (some .int))
abbrev mX6_verdict : zM := (yX6_verdict, cX6_verdict, 4, (some .int))
abbrev mX6_lies : zM := (yX6_lies, cX6_lies, 4, (some .int))
abbrev mX6_tellVerdicts : zM := (yX6_tellVerdicts, cX6_tellVerdicts, 5, none)
abbrev mX6_often : zM := (yX6_often, cX6_often, 3, (some .int))
abbrev mX6_streak : zM := (yX6_streak, cX6_streak, 2, (some .int))
abbrev mX6_come : zM := (yX6_come, cX6_come, 2, (some .int))
abbrev mX6_first : zM := (yX6_first, cX6_first, 4, (some .int))
abbrev mX6_round : zM := (yX6_round, cX6_round, 5, (some .int))
abbrev mX6_pleased : zM := (yX6_pleased, cX6_pleased, 4, (some .int))
abbrev mX6_swept : zM := (yX6_swept, cX6_swept, 5, (some .int))
abbrev mX6_drunk : zM := (yX6_drunk, cX6_drunk, 3, (some .int))
abbrev mX6_thirstiest : zM := (yX6_thirstiest, cX6_thirstiest, 4, (some .int))
abbrev mX6_seatFrom : zM := (yX6_seatFrom, cX6_seatFrom, 5, none)
abbrev mX6_orders : zM := (yX6_orders, cX6_orders, 3, (some .int))
abbrev mX6_turnAll : zM := (yX6_turnAll, cX6_turnAll, 3, none)
abbrev mX6_decisive : zM := (yX6_decisive, cX6_decisive, 4, (some .int))
abbrev mX6_toTurn : zM := (yX6_toTurn, cX6_toTurn, 4, (some .int))
abbrev mX6_toDrink : zM := (yX6_toDrink, cX6_toDrink, 6, (some .int))
abbrev mX6_toPour : zM := (yX6_toPour, cX6_toPour, 5, (some .int))
abbrev mX6_toLay : zM := (yX6_toLay, cX6_toLay, 6, (some .int))
abbrev mX6_better : zM := (yX6_better, cX6_better, 4, (some .int))
abbrev mX6_stir : zM := (yX6_stir, cX6_stir, 4, (some .int))
abbrev mX6_apart : zM := (yX6_apart, cX6_apart, 4, (some .int))
abbrev mX6_read : zM := (yX6_read, cX6_read, 3, (some .int))
abbrev mX6_isAsRead : zM := (yX6_isAsRead, cX6_isAsRead, 4, (some .boolean))
abbrev mX6_tellFits : zM := (yX6_tellFits, cX6_tellFits, 4, none)
abbrev mX6_handed : zM := (yX6_handed, cX6_handed, 2, (some .int))
abbrev mX6_unlike : zM := (yX6_unlike, cX6_unlike, 4, (some .int))
abbrev mX6_look : zM := (yX6_look, cX6_look, 6, (some .int))
abbrev mX6_forget : zM := (yX6_forget, cX6_forget, 1, none)
abbrev mX6_gainOf : zM := (yX6_gainOf, cX6_gainOf, 4, (some .int))
abbrev mX6_game : zM := (yX6_game, cX6_game, 9, (some .int))
abbrev mX6_drawOf : zM := (yX6_drawOf, cX6_drawOf, 2, (some .int))
abbrev mX6_something : zM := (yX6_something, cX6_something, 3, none)
abbrev mX6_years : zM := (yX6_years, cX6_years, 7, (some .int))
abbrev mX6_copyTo : zM := (yX6_copyTo, cX6_copyTo, 3, none)
abbrev mX6_image : zM := (yX6_image, cX6_image, 1, none)
abbrev mX6_restore : zM := (yX6_restore, cX6_restore, 1, (some .boolean))
abbrev mX0_handOver : zM := (yX0_handOver, cX0_handOver, 3, (some (.object "DregsVerdict$Court")))
abbrev mX0_takeDown : zM := (yX0_takeDown, cX0_takeDown, 5, (some .int))
abbrev mX0_refuse : zM := (yX0_refuse, cX0_refuse, 2, (some .boolean))
abbrev mX0_byteAt : zM := (yX0_byteAt, cX0_byteAt, 2, (some .int))
abbrev mX0_isBlank : zM := (yX0_isBlank, cX0_isBlank, 1, (some .boolean))
abbrev mX0_isLetter : zM := (yX0_isLetter, cX0_isLetter, 1, (some .boolean))
abbrev mX0_isDigit : zM := (yX0_isDigit, cX0_isDigit, 1, (some .boolean))
abbrev mX0_advance : zM := (yX0_advance, cX0_advance, 1, none)
abbrev mX0_isTooLong : zM := (yX0_isTooLong, cX0_isTooLong, 1, (some .boolean))
abbrev mX0_isWord : zM := (yX0_isWord, cX0_isWord, 3, (some .boolean))
abbrev mX0_isSign : zM := (yX0_isSign, cX0_isSign, 2, (some .boolean))
abbrev mX0_takeSign : zM := (yX0_takeSign, cX0_takeSign, 2, (some .boolean))
abbrev mX0_takeNumber : zM := (yX0_takeNumber, cX0_takeNumber, 3, (some .boolean))
abbrev mX0_takeLine : zM := (yX0_takeLine, cX0_takeLine, 1, (some .boolean))
abbrev mX0_takeLeaf : zM := (yX0_takeLeaf, cX0_takeLeaf, 2, (some .boolean))
abbrev mX0_takeJudge : zM := (yX0_takeJudge, cX0_takeJudge, 3, (some .boolean))
abbrev mX0_takePot : zM := (yX0_takePot, cX0_takePot, 1, (some .boolean))
abbrev mX0_takeRule : zM := (yX0_takeRule, cX0_takeRule, 3, (some .boolean))
abbrev mX0_takeExpr : zM := (yX0_takeExpr, cX0_takeExpr, 3, (some .boolean))
abbrev mX0_takeAnd : zM := (yX0_takeAnd, cX0_takeAnd, 3, (some .boolean))
abbrev mX0_takeNot : zM := (yX0_takeNot, cX0_takeNot, 4, (some .boolean))
abbrev mX0_takeTest : zM := (yX0_takeTest, cX0_takeTest, 3, (some .boolean))
abbrev mX0_takeSum : zM := (yX0_takeSum, cX0_takeSum, 4, (some .boolean))
abbrev mX0_takeProduct : zM := (yX0_takeProduct, cX0_takeProduct, 4, (some .boolean))
abbrev mX0_takePart : zM := (yX0_takePart, cX0_takePart, 3, (some .boolean))
abbrev mX0_valueNamed : zM := (yX0_valueNamed, cX0_valueNamed, 1, (some .int))
abbrev mX1_clear : zM := (yX1_clear, cX1_clear, 1, none)
abbrev mX1_addStep : zM := (yX1_addStep, cX1_addStep, 2, none)
abbrev mX2_open : zM := (yX2_open, cX2_open, 3, none)
abbrev mX2_copyFrom : zM := (yX2_copyFrom, cX2_copyFrom, 2, none)
abbrev mX2_save : zM := (yX2_save, cX2_save, 3, none)
abbrev mX2_load : zM := (yX2_load, cX2_load, 3, none)
abbrev mX2_seatOf : zM := (yX2_seatOf, cX2_seatOf, 4, (some .int))
abbrev mX2_swap : zM := (yX2_swap, cX2_swap, 6, none)
abbrev mX2_liesLike : zM := (yX2_liesLike, cX2_liesLike, 4, (some .boolean))
abbrev mX2_placesWithLeaves : zM := (yX2_placesWithLeaves, cX2_placesWithLeaves, 4, (some .int))
abbrev mX2_hear : zM := (yX2_hear, cX2_hear, 7, none)
abbrev mX2_sipOf : zM := (yX2_sipOf, cX2_sipOf, 6, (some .int))
abbrev mX2_stirBy : zM := (yX2_stirBy, cX2_stirBy, 5, none)
abbrev mX2_push : zM := (yX2_push, cX2_push, 2, (some .int))
abbrev mX2_stirred : zM := (yX2_stirred, cX2_stirred, 4, (some .int))
abbrev mX2_blow : zM := (yX2_blow, cX2_blow, 4, none)
abbrev mX3_open : zM := (yX3_open, cX3_open, 2, none)
abbrev mX3_copyFrom : zM := (yX3_copyFrom, cX3_copyFrom, 2, none)
abbrev mX3_keepAct : zM := (yX3_keepAct, cX3_keepAct, 1, none)
abbrev mX3_takeBackAct : zM := (yX3_takeBackAct, cX3_takeBackAct, 1, none)
abbrev mX3_lastReadCase : zM := (yX3_lastReadCase, cX3_lastReadCase, 3, (some .int))
abbrev mX3_couldBe : zM := (yX3_couldBe, cX3_couldBe, 4, (some .boolean))
abbrev mX4_survey : zM := (yX4_survey, cX4_survey, 5, none)
abbrev mX4_widestGap : zM := (yX4_widestGap, cX4_widestGap, 4, (some .int))
abbrev mX4_reading : zM := (yX4_reading, cX4_reading, 3, (some .int))
abbrev mX4_valueOf : zM := (yX4_valueOf, cX4_valueOf, 10, (some .int))
abbrev mX4_named : zM := (yX4_named, cX4_named, 5, (some .int))
abbrev mX4_joined : zM := (yX4_joined, cX4_joined, 3, (some .int))
abbrev mJ9_max_7cf53 : zM := (yJ9_max_7cf53, cJ9_max_7cf53, 2, (some .int))
abbrev mJ9_min_7cf53 : zM := (yJ9_min_7cf53, cJ9_min_7cf53, 2, (some .int))
abbrev mJ9_abs_0f7a4 : zM := (yJ9_abs_0f7a4, cJ9_abs_0f7a4, 1, (some .int))
abbrev mJ9_floorMod_7cf53 : zM := (yJ9_floorMod_7cf53, cJ9_floorMod_7cf53, 3, (some .int))
abbrev mJ6_bitCount_0f7a4 : zM := (yJ6_bitCount_0f7a4, cJ6_bitCount_0f7a4, 1, (some .int))
theorem lc_J9_min_7cf53 : Cond.code mJ9_min_7cf53.1 mJ9_min_7cf53.2.1 mJ9_min_7cf53.2.2.1 mJ9_min_7cf53.2.2.2 ∈ zTs := zTb2 125 (by decide +kernel) rfl
theorem ld_J9_min_7cf53 : mJ9_min_7cf53.1.cls ≠ "java/lang/invoke/MethodHandle" ∧ mJ9_min_7cf53.1.cls ≠ "java/lang/invoke/VarHandle" ∧ (parseMethodDescriptor mJ9_min_7cf53.1.desc).map (fun d => d.parameters.length) = some 2 ∧ mJ9_min_7cf53.2.2.1 ≤ 45 := ⟨by decide, by decide, by decide +kernel, by decide⟩
theorem le_J9_min_7cf53 : Cond.static mJ9_min_7cf53.1 ∈ zTs := zTb2 124 (by decide +kernel) rfl
theorem li_J9_min_7cf53 : Cond.initialized mJ9_min_7cf53.1.cls ∈ zTs := zTb1 12 (by decide +kernel) rfl
theorem lc_J9_max_7cf53 : Cond.code mJ9_max_7cf53.1 mJ9_max_7cf53.2.1 mJ9_max_7cf53.2.2.1 mJ9_max_7cf53.2.2.2 ∈ zTs := zTb2 128 (by decide +kernel) rfl
theorem ld_J9_max_7cf53 : mJ9_max_7cf53.1.cls ≠ "java/lang/invoke/MethodHandle" ∧ mJ9_max_7cf53.1.cls ≠ "java/lang/invoke/VarHandle" ∧ (parseMethodDescriptor mJ9_max_7cf53.1.desc).map (fun d => d.parameters.length) = some 2 ∧ mJ9_max_7cf53.2.2.1 ≤ 45 := ⟨by decide, by decide, by decide +kernel, by decide⟩
theorem le_J9_max_7cf53 : Cond.static mJ9_max_7cf53.1 ∈ zTs := zTb2 127 (by decide +kernel) rfl
theorem li_J9_max_7cf53 : Cond.initialized mJ9_max_7cf53.1.cls ∈ zTs := zTb1 12 (by decide +kernel) rfl
theorem lc_X1_clear : Cond.code mX1_clear.1 mX1_clear.2.1 mX1_clear.2.2.1 mX1_clear.2.2.2 ∈ zTs := zTb3 66 (by decide +kernel) rfl
theorem ld_X1_clear : mX1_clear.1.cls ≠ "java/lang/invoke/MethodHandle" ∧ mX1_clear.1.cls ≠ "java/lang/invoke/VarHandle" ∧ (parseMethodDescriptor mX1_clear.1.desc).map (fun d => d.parameters.length) = some 0 ∧ mX1_clear.2.2.1 ≤ 45 := ⟨by decide, by decide, by decide +kernel, by decide⟩
theorem le_X1_clear : Cond.instanceMethod mX1_clear.1 ∈ zTs ∧ Cond.selects mX1_clear.1.cls mX1_clear.1 mX1_clear.1 ∈ zTs := ⟨zTb3 64 (by decide +kernel) rfl, zTb3 65 (by decide +kernel) rfl⟩
theorem li_X1_clear : Cond.initialized mX1_clear.1.cls ∈ zTs := zTb1 2 (by decide +kernel) rfl
theorem lc_X0_advance : Cond.code mX0_advance.1 mX0_advance.2.1 mX0_advance.2.2.1 mX0_advance.2.2.2 ∈ zTs := zTb3 70 (by decide +kernel) rfl
theorem ld_X0_advance : mX0_advance.1.cls ≠ "java/lang/invoke/MethodHandle" ∧ mX0_advance.1.cls ≠ "java/lang/invoke/VarHandle" ∧ (parseMethodDescriptor mX0_advance.1.desc).map (fun d => d.parameters.length) = some 0 ∧ mX0_advance.2.2.1 ≤ 45 := ⟨by decide, by decide, by decide +kernel, by decide⟩
theorem le_X0_advance : Cond.instanceMethod mX0_advance.1 ∈ zTs ∧ Cond.selects mX0_advance.1.cls mX0_advance.1 mX0_advance.1 ∈ zTs := ⟨zTb3 69 (by decide +kernel) rfl, zTb0 9 (by decide +kernel)⟩
theorem li_X0_advance : Cond.initialized mX0_advance.1.cls ∈ zTs := zTb1 3 (by decide +kernel) rfl
theorem lc_X0_takeLine : Cond.code mX0_takeLine.1 mX0_takeLine.2.1 mX0_takeLine.2.2.1 mX0_takeLine.2.2.2 ∈ zTs := zTb3 91 (by decide +kernel) rfl
theorem ld_X0_takeLine : mX0_takeLine.1.cls ≠ "java/lang/invoke/MethodHandle" ∧ mX0_takeLine.1.cls ≠ "java/lang/invoke/VarHandle" ∧ (parseMethodDescriptor mX0_takeLine.1.desc).map (fun d => d.parameters.length) = some 0 ∧ mX0_takeLine.2.2.1 ≤ 45 := ⟨by decide, by decide, by decide +kernel, by decide⟩
theorem le_X0_takeLine : Cond.instanceMethod mX0_takeLine.1 ∈ zTs ∧ Cond.selects mX0_takeLine.1.cls mX0_takeLine.1 mX0_takeLine.1 ∈ zTs := ⟨zTb3 90 (by decide +kernel) rfl, zTb0 12 (by decide +kernel)⟩
theorem li_X0_takeLine : Cond.initialized mX0_takeLine.1.cls ∈ zTs := zTb1 3 (by decide +kernel) rfl
theorem lc_X0_takeSign : Cond.code mX0_takeSign.1 mX0_takeSign.2.1 mX0_takeSign.2.2.1 mX0_takeSign.2.2.2 ∈ zTs := zTb3 209 (by decide +kernel) rfl
theorem ld_X0_takeSign : mX0_takeSign.1.cls ≠ "java/lang/invoke/MethodHandle" ∧ mX0_takeSign.1.cls ≠ "java/lang/invoke/VarHandle" ∧ (parseMethodDescriptor mX0_takeSign.1.desc).map (fun d => d.parameters.length) = some 1 ∧ mX0_takeSign.2.2.1 ≤ 45 := ⟨by decide, by decide, by decide +kernel, by decide⟩
theorem le_X0_takeSign : Cond.instanceMethod mX0_takeSign.1 ∈ zTs ∧ Cond.selects mX0_takeSign.1.cls mX0_takeSign.1 mX0_takeSign.1 ∈ zTs := ⟨zTb3 208 (by decide +kernel) rfl, zTb0 28 (by decide +kernel)⟩
theorem li_X0_takeSign : Cond.initialized mX0_takeSign.1.cls ∈ zTs := zTb1 3 (by decide +kernel) rfl
theorem lc_X0_byteAt : Cond.code mX0_byteAt.1 mX0_byteAt.2.1 mX0_byteAt.2.2.1 mX0_byteAt.2.2.2 ∈ zTs := zTb3 74 (by decide +kernel) rfl
theorem ld_X0_byteAt : mX0_byteAt.1.cls ≠ "java/lang/invoke/MethodHandle" ∧ mX0_byteAt.1.cls ≠ "java/lang/invoke/VarHandle" ∧ (parseMethodDescriptor mX0_byteAt.1.desc).map (fun d => d.parameters.length) = some 1 ∧ mX0_byteAt.2.2.1 ≤ 45 := ⟨by decide, by decide, by decide +kernel, by decide⟩
theorem le_X0_byteAt : Cond.instanceMethod mX0_byteAt.1 ∈ zTs ∧ Cond.selects mX0_byteAt.1.cls mX0_byteAt.1 mX0_byteAt.1 ∈ zTs := ⟨zTb3 73 (by decide +kernel) rfl, zTb0 10 (by decide +kernel)⟩
theorem li_X0_byteAt : Cond.initialized mX0_byteAt.1.cls ∈ zTs := zTb1 3 (by decide +kernel) rfl
theorem lc_X0_isBlank : Cond.code mX0_isBlank.1 mX0_isBlank.2.1 mX0_isBlank.2.2.1 mX0_isBlank.2.2.2 ∈ zTs := zTb3 77 (by decide +kernel) rfl
theorem ld_X0_isBlank : mX0_isBlank.1.cls ≠ "java/lang/invoke/MethodHandle" ∧ mX0_isBlank.1.cls ≠ "java/lang/invoke/VarHandle" ∧ (parseMethodDescriptor mX0_isBlank.1.desc).map (fun d => d.parameters.length) = some 1 ∧ mX0_isBlank.2.2.1 ≤ 45 := ⟨by decide, by decide, by decide +kernel, by decide⟩
theorem le_X0_isBlank : Cond.static mX0_isBlank.1 ∈ zTs := zTb3 76 (by decide +kernel) rfl
theorem li_X0_isBlank : Cond.initialized mX0_isBlank.1.cls ∈ zTs := zTb1 3 (by decide +kernel) rfl
theorem lc_X0_isLetter : Cond.code mX0_isLetter.1 mX0_isLetter.2.1 mX0_isLetter.2.2.1 mX0_isLetter.2.2.2 ∈ zTs := zTb3 80 (by decide +kernel) rfl
theorem ld_X0_isLetter : mX0_isLetter.1.cls ≠ "java/lang/invoke/MethodHandle" ∧ mX0_isLetter.1.cls ≠ "java/lang/invoke/VarHandle" ∧ (parseMethodDescriptor mX0_isLetter.1.desc).map (fun d => d.parameters.length) = some 1 ∧ mX0_isLetter.2.2.1 ≤ 45 := ⟨by decide, by decide, by decide +kernel, by decide⟩
theorem le_X0_isLetter : Cond.static mX0_isLetter.1 ∈ zTs := zTb3 79 (by decide +kernel) rfl
theorem li_X0_isLetter : Cond.initialized mX0_isLetter.1.cls ∈ zTs := zTb1 3 (by decide +kernel) rfl
theorem lc_X0_isDigit : Cond.code mX0_isDigit.1 mX0_isDigit.2.1 mX0_isDigit.2.2.1 mX0_isDigit.2.2.2 ∈ zTs := zTb3 83 (by decide +kernel) rfl
theorem ld_X0_isDigit : mX0_isDigit.1.cls ≠ "java/lang/invoke/MethodHandle" ∧ mX0_isDigit.1.cls ≠ "java/lang/invoke/VarHandle" ∧ (parseMethodDescriptor mX0_isDigit.1.desc).map (fun d => d.parameters.length) = some 1 ∧ mX0_isDigit.2.2.1 ≤ 45 := ⟨by decide, by decide, by decide +kernel, by decide⟩
theorem le_X0_isDigit : Cond.static mX0_isDigit.1 ∈ zTs := zTb3 82 (by decide +kernel) rfl
theorem li_X0_isDigit : Cond.initialized mX0_isDigit.1.cls ∈ zTs := zTb1 3 (by decide +kernel) rfl
theorem lc_X0_isTooLong : Cond.code mX0_isTooLong.1 mX0_isTooLong.2.1 mX0_isTooLong.2.2.1 mX0_isTooLong.2.2.2 ∈ zTs := zTb3 87 (by decide +kernel) rfl
theorem ld_X0_isTooLong : mX0_isTooLong.1.cls ≠ "java/lang/invoke/MethodHandle" ∧ mX0_isTooLong.1.cls ≠ "java/lang/invoke/VarHandle" ∧ (parseMethodDescriptor mX0_isTooLong.1.desc).map (fun d => d.parameters.length) = some 0 ∧ mX0_isTooLong.2.2.1 ≤ 45 := ⟨by decide, by decide, by decide +kernel, by decide⟩
theorem le_X0_isTooLong : Cond.instanceMethod mX0_isTooLong.1 ∈ zTs ∧ Cond.selects mX0_isTooLong.1.cls mX0_isTooLong.1 mX0_isTooLong.1 ∈ zTs := ⟨zTb3 86 (by decide +kernel) rfl, zTb0 11 (by decide +kernel)⟩
theorem li_X0_isTooLong : Cond.initialized mX0_isTooLong.1.cls ∈ zTs := zTb1 3 (by decide +kernel) rfl
theorem lc_X0_isSign : Cond.code mX0_isSign.1 mX0_isSign.2.1 mX0_isSign.2.2.1 mX0_isSign.2.2.2 ∈ zTs := zTb3 180 (by decide +kernel) rfl
theorem ld_X0_isSign : mX0_isSign.1.cls ≠ "java/lang/invoke/MethodHandle" ∧ mX0_isSign.1.cls ≠ "java/lang/invoke/VarHandle" ∧ (parseMethodDescriptor mX0_isSign.1.desc).map (fun d => d.parameters.length) = some 1 ∧ mX0_isSign.2.2.1 ≤ 45 := ⟨by decide, by decide, by decide +kernel, by decide⟩
theorem le_X0_isSign : Cond.instanceMethod mX0_isSign.1 ∈ zTs ∧ Cond.selects mX0_isSign.1.cls mX0_isSign.1 mX0_isSign.1 ∈ zTs := ⟨zTb3 179 (by decide +kernel) rfl, zTb0 21 (by decide +kernel)⟩
theorem li_X0_isSign : Cond.initialized mX0_isSign.1.cls ∈ zTs := zTb1 3 (by decide +kernel) rfl
theorem lc_X0_refuse : Cond.code mX0_refuse.1 mX0_refuse.2.1 mX0_refuse.2.2.1 mX0_refuse.2.2.2 ∈ zTs := zTb3 152 (by decide +kernel) rfl
theorem ld_X0_refuse : mX0_refuse.1.cls ≠ "java/lang/invoke/MethodHandle" ∧ mX0_refuse.1.cls ≠ "java/lang/invoke/VarHandle" ∧ (parseMethodDescriptor mX0_refuse.1.desc).map (fun d => d.parameters.length) = some 1 ∧ mX0_refuse.2.2.1 ≤ 45 := ⟨by decide, by decide, by decide +kernel, by decide⟩
theorem le_X0_refuse : Cond.instanceMethod mX0_refuse.1 ∈ zTs ∧ Cond.selects mX0_refuse.1.cls mX0_refuse.1 mX0_refuse.1 ∈ zTs := ⟨zTb3 151 (by decide +kernel) rfl, zTb0 15 (by decide +kernel)⟩
theorem li_X0_refuse : Cond.initialized mX0_refuse.1.cls ∈ zTs := zTb1 3 (by decide +kernel) rfl
theorem lc_X0_isWord : Cond.code mX0_isWord.1 mX0_isWord.2.1 mX0_isWord.2.2.1 mX0_isWord.2.2.2 ∈ zTs := zTb3 96 (by decide +kernel) rfl
theorem ld_X0_isWord : mX0_isWord.1.cls ≠ "java/lang/invoke/MethodHandle" ∧ mX0_isWord.1.cls ≠ "java/lang/invoke/VarHandle" ∧ (parseMethodDescriptor mX0_isWord.1.desc).map (fun d => d.parameters.length) = some 1 ∧ mX0_isWord.2.2.1 ≤ 45 := ⟨by decide, by decide, by decide +kernel, by decide⟩
theorem le_X0_isWord : Cond.instanceMethod mX0_isWord.1 ∈ zTs ∧ Cond.selects mX0_isWord.1.cls mX0_isWord.1 mX0_isWord.1 ∈ zTs := ⟨zTb3 95 (by decide +kernel) rfl, zTb0 13 (by decide +kernel)⟩
theorem li_X0_isWord : Cond.initialized mX0_isWord.1.cls ∈ zTs := zTb1 3 (by decide +kernel) rfl
theorem lc_X0_takeLeaf : Cond.code mX0_takeLeaf.1 mX0_takeLeaf.2.1 mX0_takeLeaf.2.2.1 mX0_takeLeaf.2.2.2 ∈ zTs := zTb3 148 (by decide +kernel) rfl
theorem ld_X0_takeLeaf : mX0_takeLeaf.1.cls ≠ "java/lang/invoke/MethodHandle" ∧ mX0_takeLeaf.1.cls ≠ "java/lang/invoke/VarHandle" ∧ (parseMethodDescriptor mX0_takeLeaf.1.desc).map (fun d => d.parameters.length) = some 0 ∧ mX0_takeLeaf.2.2.1 ≤ 45 := ⟨by decide, by decide, by decide +kernel, by decide⟩
theorem le_X0_takeLeaf : Cond.instanceMethod mX0_takeLeaf.1 ∈ zTs ∧ Cond.selects mX0_takeLeaf.1.cls mX0_takeLeaf.1 mX0_takeLeaf.1 ∈ zTs := ⟨zTb3 147 (by decide +kernel) rfl, zTb0 14 (by decide +kernel)⟩
theorem li_X0_takeLeaf : Cond.initialized mX0_takeLeaf.1.cls ∈ zTs := zTb1 3 (by decide +kernel) rfl
theorem lc_X0_takeJudge : Cond.code mX0_takeJudge.1 mX0_takeJudge.2.1 mX0_takeJudge.2.2.1 mX0_takeJudge.2.2.2 ∈ zTs := zTb3 162 (by decide +kernel) rfl
theorem ld_X0_takeJudge : mX0_takeJudge.1.cls ≠ "java/lang/invoke/MethodHandle" ∧ mX0_takeJudge.1.cls ≠ "java/lang/invoke/VarHandle" ∧ (parseMethodDescriptor mX0_takeJudge.1.desc).map (fun d => d.parameters.length) = some 1 ∧ mX0_takeJudge.2.2.1 ≤ 45 := ⟨by decide, by decide, by decide +kernel, by decide⟩
theorem le_X0_takeJudge : Cond.instanceMethod mX0_takeJudge.1 ∈ zTs ∧ Cond.selects mX0_takeJudge.1.cls mX0_takeJudge.1 mX0_takeJudge.1 ∈ zTs := ⟨zTb3 161 (by decide +kernel) rfl, zTb0 17 (by decide +kernel)⟩
theorem li_X0_takeJudge : Cond.initialized mX0_takeJudge.1.cls ∈ zTs := zTb1 3 (by decide +kernel) rfl
theorem lc_X0_takePot : Cond.code mX0_takePot.1 mX0_takePot.2.1 mX0_takePot.2.2.1 mX0_takePot.2.2.2 ∈ zTs := zTb3 167 (by decide +kernel) rfl
theorem ld_X0_takePot : mX0_takePot.1.cls ≠ "java/lang/invoke/MethodHandle" ∧ mX0_takePot.1.cls ≠ "java/lang/invoke/VarHandle" ∧ (parseMethodDescriptor mX0_takePot.1.desc).map (fun d => d.parameters.length) = some 0 ∧ mX0_takePot.2.2.1 ≤ 45 := ⟨by decide, by decide, by decide +kernel, by decide⟩
theorem le_X0_takePot : Cond.instanceMethod mX0_takePot.1 ∈ zTs ∧ Cond.selects mX0_takePot.1.cls mX0_takePot.1 mX0_takePot.1 ∈ zTs := ⟨zTb3 166 (by decide +kernel) rfl, zTb0 18 (by decide +kernel)⟩
theorem li_X0_takePot : Cond.initialized mX0_takePot.1.cls ∈ zTs := zTb1 3 (by decide +kernel) rfl
theorem lc_X0_takeRule : Cond.code mX0_takeRule.1 mX0_takeRule.2.1 mX0_takeRule.2.2.1 mX0_takeRule.2.2.2 ∈ zTs := zTb3 172 (by decide +kernel) rfl
theorem ld_X0_takeRule : mX0_takeRule.1.cls ≠ "java/lang/invoke/MethodHandle" ∧ mX0_takeRule.1.cls ≠ "java/lang/invoke/VarHandle" ∧ (parseMethodDescriptor mX0_takeRule.1.desc).map (fun d => d.parameters.length) = some 1 ∧ mX0_takeRule.2.2.1 ≤ 45 := ⟨by decide, by decide, by decide +kernel, by decide⟩
theorem le_X0_takeRule : Cond.instanceMethod mX0_takeRule.1 ∈ zTs ∧ Cond.selects mX0_takeRule.1.cls mX0_takeRule.1 mX0_takeRule.1 ∈ zTs := ⟨zTb3 171 (by decide +kernel) rfl, zTb0 19 (by decide +kernel)⟩
theorem li_X0_takeRule : Cond.initialized mX0_takeRule.1.cls ∈ zTs := zTb1 3 (by decide +kernel) rfl
theorem lc_X0_takeNumber : Cond.code mX0_takeNumber.1 mX0_takeNumber.2.1 mX0_takeNumber.2.2.1 mX0_takeNumber.2.2.2 ∈ zTs := zTb3 156 (by decide +kernel) rfl
theorem ld_X0_takeNumber : mX0_takeNumber.1.cls ≠ "java/lang/invoke/MethodHandle" ∧ mX0_takeNumber.1.cls ≠ "java/lang/invoke/VarHandle" ∧ (parseMethodDescriptor mX0_takeNumber.1.desc).map (fun d => d.parameters.length) = some 2 ∧ mX0_takeNumber.2.2.1 ≤ 45 := ⟨by decide, by decide, by decide +kernel, by decide⟩
theorem le_X0_takeNumber : Cond.instanceMethod mX0_takeNumber.1 ∈ zTs ∧ Cond.selects mX0_takeNumber.1.cls mX0_takeNumber.1 mX0_takeNumber.1 ∈ zTs := ⟨zTb3 155 (by decide +kernel) rfl, zTb0 16 (by decide +kernel)⟩
theorem li_X0_takeNumber : Cond.initialized mX0_takeNumber.1.cls ∈ zTs := zTb1 3 (by decide +kernel) rfl
theorem lc_X0_takeExpr : Cond.code mX0_takeExpr.1 mX0_takeExpr.2.1 mX0_takeExpr.2.2.1 mX0_takeExpr.2.2.2 ∈ zTs := zTb3 176 (by decide +kernel) rfl
theorem ld_X0_takeExpr : mX0_takeExpr.1.cls ≠ "java/lang/invoke/MethodHandle" ∧ mX0_takeExpr.1.cls ≠ "java/lang/invoke/VarHandle" ∧ (parseMethodDescriptor mX0_takeExpr.1.desc).map (fun d => d.parameters.length) = some 1 ∧ mX0_takeExpr.2.2.1 ≤ 45 := ⟨by decide, by decide, by decide +kernel, by decide⟩
theorem le_X0_takeExpr : Cond.instanceMethod mX0_takeExpr.1 ∈ zTs ∧ Cond.selects mX0_takeExpr.1.cls mX0_takeExpr.1 mX0_takeExpr.1 ∈ zTs := ⟨zTb3 175 (by decide +kernel) rfl, zTb0 20 (by decide +kernel)⟩
theorem li_X0_takeExpr : Cond.initialized mX0_takeExpr.1.cls ∈ zTs := zTb1 3 (by decide +kernel) rfl
theorem lc_X0_takeAnd : Cond.code mX0_takeAnd.1 mX0_takeAnd.2.1 mX0_takeAnd.2.2.1 mX0_takeAnd.2.2.2 ∈ zTs := zTb3 184 (by decide +kernel) rfl
theorem ld_X0_takeAnd : mX0_takeAnd.1.cls ≠ "java/lang/invoke/MethodHandle" ∧ mX0_takeAnd.1.cls ≠ "java/lang/invoke/VarHandle" ∧ (parseMethodDescriptor mX0_takeAnd.1.desc).map (fun d => d.parameters.length) = some 1 ∧ mX0_takeAnd.2.2.1 ≤ 45 := ⟨by decide, by decide, by decide +kernel, by decide⟩
theorem le_X0_takeAnd : Cond.instanceMethod mX0_takeAnd.1 ∈ zTs ∧ Cond.selects mX0_takeAnd.1.cls mX0_takeAnd.1 mX0_takeAnd.1 ∈ zTs := ⟨zTb3 183 (by decide +kernel) rfl, zTb0 22 (by decide +kernel)⟩
theorem li_X0_takeAnd : Cond.initialized mX0_takeAnd.1.cls ∈ zTs := zTb1 3 (by decide +kernel) rfl
theorem lc_X1_addStep : Cond.code mX1_addStep.1 mX1_addStep.2.1 mX1_addStep.2.2.1 mX1_addStep.2.2.2 ∈ zTs := zTb3 224 (by decide +kernel) rfl
theorem ld_X1_addStep : mX1_addStep.1.cls ≠ "java/lang/invoke/MethodHandle" ∧ mX1_addStep.1.cls ≠ "java/lang/invoke/VarHandle" ∧ (parseMethodDescriptor mX1_addStep.1.desc).map (fun d => d.parameters.length) = some 1 ∧ mX1_addStep.2.2.1 ≤ 45 := ⟨by decide, by decide, by decide +kernel, by decide⟩
theorem le_X1_addStep : Cond.instanceMethod mX1_addStep.1 ∈ zTs ∧ Cond.selects mX1_addStep.1.cls mX1_addStep.1 mX1_addStep.1 ∈ zTs := ⟨zTb3 222 (by decide +kernel) rfl, zTb3 223 (by decide +kernel) rfl⟩
theorem li_X1_addStep : Cond.initialized mX1_addStep.1.cls ∈ zTs := zTb1 2 (by decide +kernel) rfl
theorem lc_X0_takeNot : Cond.code mX0_takeNot.1 mX0_takeNot.2.1 mX0_takeNot.2.2.1 mX0_takeNot.2.2.2 ∈ zTs := zTb3 188 (by decide +kernel) rfl
theorem ld_X0_takeNot : mX0_takeNot.1.cls ≠ "java/lang/invoke/MethodHandle" ∧ mX0_takeNot.1.cls ≠ "java/lang/invoke/VarHandle" ∧ (parseMethodDescriptor mX0_takeNot.1.desc).map (fun d => d.parameters.length) = some 1 ∧ mX0_takeNot.2.2.1 ≤ 45 := ⟨by decide, by decide, by decide +kernel, by decide⟩
theorem le_X0_takeNot : Cond.instanceMethod mX0_takeNot.1 ∈ zTs ∧ Cond.selects mX0_takeNot.1.cls mX0_takeNot.1 mX0_takeNot.1 ∈ zTs := ⟨zTb3 187 (by decide +kernel) rfl, zTb0 23 (by decide +kernel)⟩
theorem li_X0_takeNot : Cond.initialized mX0_takeNot.1.cls ∈ zTs := zTb1 3 (by decide +kernel) rfl
theorem lc_X0_takeTest : Cond.code mX0_takeTest.1 mX0_takeTest.2.1 mX0_takeTest.2.2.1 mX0_takeTest.2.2.2 ∈ zTs := zTb3 193 (by decide +kernel) rfl
theorem ld_X0_takeTest : mX0_takeTest.1.cls ≠ "java/lang/invoke/MethodHandle" ∧ mX0_takeTest.1.cls ≠ "java/lang/invoke/VarHandle" ∧ (parseMethodDescriptor mX0_takeTest.1.desc).map (fun d => d.parameters.length) = some 1 ∧ mX0_takeTest.2.2.1 ≤ 45 := ⟨by decide, by decide, by decide +kernel, by decide⟩
theorem le_X0_takeTest : Cond.instanceMethod mX0_takeTest.1 ∈ zTs ∧ Cond.selects mX0_takeTest.1.cls mX0_takeTest.1 mX0_takeTest.1 ∈ zTs := ⟨zTb3 192 (by decide +kernel) rfl, zTb0 24 (by decide +kernel)⟩
theorem li_X0_takeTest : Cond.initialized mX0_takeTest.1.cls ∈ zTs := zTb1 3 (by decide +kernel) rfl
theorem lc_X0_takeSum : Cond.code mX0_takeSum.1 mX0_takeSum.2.1 mX0_takeSum.2.2.1 mX0_takeSum.2.2.2 ∈ zTs := zTb3 197 (by decide +kernel) rfl
theorem ld_X0_takeSum : mX0_takeSum.1.cls ≠ "java/lang/invoke/MethodHandle" ∧ mX0_takeSum.1.cls ≠ "java/lang/invoke/VarHandle" ∧ (parseMethodDescriptor mX0_takeSum.1.desc).map (fun d => d.parameters.length) = some 1 ∧ mX0_takeSum.2.2.1 ≤ 45 := ⟨by decide, by decide, by decide +kernel, by decide⟩
theorem le_X0_takeSum : Cond.instanceMethod mX0_takeSum.1 ∈ zTs ∧ Cond.selects mX0_takeSum.1.cls mX0_takeSum.1 mX0_takeSum.1 ∈ zTs := ⟨zTb3 196 (by decide +kernel) rfl, zTb0 25 (by decide +kernel)⟩
theorem li_X0_takeSum : Cond.initialized mX0_takeSum.1.cls ∈ zTs := zTb1 3 (by decide +kernel) rfl
theorem lc_X0_takeProduct : Cond.code mX0_takeProduct.1 mX0_takeProduct.2.1 mX0_takeProduct.2.2.1 mX0_takeProduct.2.2.2 ∈ zTs := zTb3 201 (by decide +kernel) rfl
theorem ld_X0_takeProduct : mX0_takeProduct.1.cls ≠ "java/lang/invoke/MethodHandle" ∧ mX0_takeProduct.1.cls ≠ "java/lang/invoke/VarHandle" ∧ (parseMethodDescriptor mX0_takeProduct.1.desc).map (fun d => d.parameters.length) = some 1 ∧ mX0_takeProduct.2.2.1 ≤ 45 := ⟨by decide, by decide, by decide +kernel, by decide⟩
theorem le_X0_takeProduct : Cond.instanceMethod mX0_takeProduct.1 ∈ zTs ∧ Cond.selects mX0_takeProduct.1.cls mX0_takeProduct.1 mX0_takeProduct.1 ∈ zTs := ⟨zTb3 200 (by decide +kernel) rfl, zTb0 26 (by decide +kernel)⟩
theorem li_X0_takeProduct : Cond.initialized mX0_takeProduct.1.cls ∈ zTs := zTb1 3 (by decide +kernel) rfl
theorem lc_X0_takePart : Cond.code mX0_takePart.1 mX0_takePart.2.1 mX0_takePart.2.2.1 mX0_takePart.2.2.2 ∈ zTs := zTb3 205 (by decide +kernel) rfl
theorem ld_X0_takePart : mX0_takePart.1.cls ≠ "java/lang/invoke/MethodHandle" ∧ mX0_takePart.1.cls ≠ "java/lang/invoke/VarHandle" ∧ (parseMethodDescriptor mX0_takePart.1.desc).map (fun d => d.parameters.length) = some 1 ∧ mX0_takePart.2.2.1 ≤ 45 := ⟨by decide, by decide, by decide +kernel, by decide⟩
theorem le_X0_takePart : Cond.instanceMethod mX0_takePart.1 ∈ zTs ∧ Cond.selects mX0_takePart.1.cls mX0_takePart.1 mX0_takePart.1 ∈ zTs := ⟨zTb3 204 (by decide +kernel) rfl, zTb0 27 (by decide +kernel)⟩
theorem li_X0_takePart : Cond.initialized mX0_takePart.1.cls ∈ zTs := zTb1 3 (by decide +kernel) rfl
theorem lc_X0_valueNamed : Cond.code mX0_valueNamed.1 mX0_valueNamed.2.1 mX0_valueNamed.2.2.1 mX0_valueNamed.2.2.2 ∈ zTs := zTb3 213 (by decide +kernel) rfl
theorem ld_X0_valueNamed : mX0_valueNamed.1.cls ≠ "java/lang/invoke/MethodHandle" ∧ mX0_valueNamed.1.cls ≠ "java/lang/invoke/VarHandle" ∧ (parseMethodDescriptor mX0_valueNamed.1.desc).map (fun d => d.parameters.length) = some 0 ∧ mX0_valueNamed.2.2.1 ≤ 45 := ⟨by decide, by decide, by decide +kernel, by decide⟩
theorem le_X0_valueNamed : Cond.instanceMethod mX0_valueNamed.1 ∈ zTs ∧ Cond.selects mX0_valueNamed.1.cls mX0_valueNamed.1 mX0_valueNamed.1 ∈ zTs := ⟨zTb3 212 (by decide +kernel) rfl, zTb0 29 (by decide +kernel)⟩
theorem li_X0_valueNamed : Cond.initialized mX0_valueNamed.1.cls ∈ zTs := zTb1 3 (by decide +kernel) rfl
theorem lc_X2_seatOf : Cond.code mX2_seatOf.1 mX2_seatOf.2.1 mX2_seatOf.2.2.1 mX2_seatOf.2.2.2 ∈ zTs := zTb4 61 (by decide +kernel) rfl
theorem ld_X2_seatOf : mX2_seatOf.1.cls ≠ "java/lang/invoke/MethodHandle" ∧ mX2_seatOf.1.cls ≠ "java/lang/invoke/VarHandle" ∧ (parseMethodDescriptor mX2_seatOf.1.desc).map (fun d => d.parameters.length) = some 2 ∧ mX2_seatOf.2.2.1 ≤ 45 := ⟨by decide, by decide, by decide +kernel, by decide⟩
theorem le_X2_seatOf : Cond.instanceMethod mX2_seatOf.1 ∈ zTs ∧ Cond.selects mX2_seatOf.1.cls mX2_seatOf.1 mX2_seatOf.1 ∈ zTs := ⟨zTb4 59 (by decide +kernel) rfl, zTb4 60 (by decide +kernel) rfl⟩
theorem li_X2_seatOf : Cond.initialized mX2_seatOf.1.cls ∈ zTs := zTb1 6 (by decide +kernel) rfl
theorem lc_X2_sipOf : Cond.code mX2_sipOf.1 mX2_sipOf.2.1 mX2_sipOf.2.2.1 mX2_sipOf.2.2.2 ∈ zTs := zTb2 114 (by decide +kernel) rfl
theorem ld_X2_sipOf : mX2_sipOf.1.cls ≠ "java/lang/invoke/MethodHandle" ∧ mX2_sipOf.1.cls ≠ "java/lang/invoke/VarHandle" ∧ (parseMethodDescriptor mX2_sipOf.1.desc).map (fun d => d.parameters.length) = some 4 ∧ mX2_sipOf.2.2.1 ≤ 45 := ⟨by decide, by decide, by decide +kernel, by decide⟩
theorem le_X2_sipOf : Cond.instanceMethod mX2_sipOf.1 ∈ zTs ∧ Cond.selects mX2_sipOf.1.cls mX2_sipOf.1 mX2_sipOf.1 ∈ zTs := ⟨zTb2 113 (by decide +kernel) rfl, zTb0 1 (by decide +kernel)⟩
theorem li_X2_sipOf : Cond.initialized mX2_sipOf.1.cls ∈ zTs := zTb1 6 (by decide +kernel) rfl
theorem lc_X2_stirBy : Cond.code mX2_stirBy.1 mX2_stirBy.2.1 mX2_stirBy.2.2.1 mX2_stirBy.2.2.2 ∈ zTs := zTb2 141 (by decide +kernel) rfl
theorem ld_X2_stirBy : mX2_stirBy.1.cls ≠ "java/lang/invoke/MethodHandle" ∧ mX2_stirBy.1.cls ≠ "java/lang/invoke/VarHandle" ∧ (parseMethodDescriptor mX2_stirBy.1.desc).map (fun d => d.parameters.length) = some 2 ∧ mX2_stirBy.2.2.1 ≤ 45 := ⟨by decide, by decide, by decide +kernel, by decide⟩
theorem le_X2_stirBy : Cond.instanceMethod mX2_stirBy.1 ∈ zTs ∧ Cond.selects mX2_stirBy.1.cls mX2_stirBy.1 mX2_stirBy.1 ∈ zTs := ⟨zTb2 140 (by decide +kernel) rfl, zTb0 3 (by decide +kernel)⟩
theorem li_X2_stirBy : Cond.initialized mX2_stirBy.1.cls ∈ zTs := zTb1 6 (by decide +kernel) rfl
theorem lc_X2_blow : Cond.code mX2_blow.1 mX2_blow.2.1 mX2_blow.2.2.1 mX2_blow.2.2.2 ∈ zTs := zTb2 154 (by decide +kernel) rfl
theorem ld_X2_blow : mX2_blow.1.cls ≠ "java/lang/invoke/MethodHandle" ∧ mX2_blow.1.cls ≠ "java/lang/invoke/VarHandle" ∧ (parseMethodDescriptor mX2_blow.1.desc).map (fun d => d.parameters.length) = some 1 ∧ mX2_blow.2.2.1 ≤ 45 := ⟨by decide, by decide, by decide +kernel, by decide⟩
theorem le_X2_blow : Cond.instanceMethod mX2_blow.1 ∈ zTs ∧ Cond.selects mX2_blow.1.cls mX2_blow.1 mX2_blow.1 ∈ zTs := ⟨zTb2 153 (by decide +kernel) rfl, zTb0 4 (by decide +kernel)⟩
theorem li_X2_blow : Cond.initialized mX2_blow.1.cls ∈ zTs := zTb1 6 (by decide +kernel) rfl
theorem lc_X4_reading : Cond.code mX4_reading.1 mX4_reading.2.1 mX4_reading.2.2.1 mX4_reading.2.2.2 ∈ zTs := zTb2 158 (by decide +kernel) rfl
theorem ld_X4_reading : mX4_reading.1.cls ≠ "java/lang/invoke/MethodHandle" ∧ mX4_reading.1.cls ≠ "java/lang/invoke/VarHandle" ∧ (parseMethodDescriptor mX4_reading.1.desc).map (fun d => d.parameters.length) = some 2 ∧ mX4_reading.2.2.1 ≤ 45 := ⟨by decide, by decide, by decide +kernel, by decide⟩
theorem le_X4_reading : Cond.instanceMethod mX4_reading.1 ∈ zTs ∧ Cond.selects mX4_reading.1.cls mX4_reading.1 mX4_reading.1 ∈ zTs := ⟨zTb2 156 (by decide +kernel) rfl, zTb2 157 (by decide +kernel) rfl⟩
theorem li_X4_reading : Cond.initialized mX4_reading.1.cls ∈ zTs := zTb1 4 (by decide +kernel) rfl
theorem lc_J9_floorMod_7cf53 : Cond.code mJ9_floorMod_7cf53.1 mJ9_floorMod_7cf53.2.1 mJ9_floorMod_7cf53.2.2.1 mJ9_floorMod_7cf53.2.2.2 ∈ zTs := zTb2 150 (by decide +kernel) rfl
theorem ld_J9_floorMod_7cf53 : mJ9_floorMod_7cf53.1.cls ≠ "java/lang/invoke/MethodHandle" ∧ mJ9_floorMod_7cf53.1.cls ≠ "java/lang/invoke/VarHandle" ∧ (parseMethodDescriptor mJ9_floorMod_7cf53.1.desc).map (fun d => d.parameters.length) = some 2 ∧ mJ9_floorMod_7cf53.2.2.1 ≤ 45 := ⟨by decide, by decide, by decide +kernel, by decide⟩
theorem le_J9_floorMod_7cf53 : Cond.static mJ9_floorMod_7cf53.1 ∈ zTs := zTb2 149 (by decide +kernel) rfl
theorem li_J9_floorMod_7cf53 : Cond.initialized mJ9_floorMod_7cf53.1.cls ∈ zTs := zTb1 12 (by decide +kernel) rfl
theorem lc_X4_valueOf : Cond.code mX4_valueOf.1 mX4_valueOf.2.1 mX4_valueOf.2.2.1 mX4_valueOf.2.2.2 ∈ zTs := zTb2 118 (by decide +kernel) rfl
theorem ld_X4_valueOf : mX4_valueOf.1.cls ≠ "java/lang/invoke/MethodHandle" ∧ mX4_valueOf.1.cls ≠ "java/lang/invoke/VarHandle" ∧ (parseMethodDescriptor mX4_valueOf.1.desc).map (fun d => d.parameters.length) = some 5 ∧ mX4_valueOf.2.2.1 ≤ 45 := ⟨by decide, by decide, by decide +kernel, by decide⟩
theorem le_X4_valueOf : Cond.instanceMethod mX4_valueOf.1 ∈ zTs ∧ Cond.selects mX4_valueOf.1.cls mX4_valueOf.1 mX4_valueOf.1 ∈ zTs := ⟨zTb2 116 (by decide +kernel) rfl, zTb2 117 (by decide +kernel) rfl⟩
theorem li_X4_valueOf : Cond.initialized mX4_valueOf.1.cls ∈ zTs := zTb1 4 (by decide +kernel) rfl
theorem lc_X2_push : Cond.code mX2_push.1 mX2_push.2.1 mX2_push.2.2.1 mX2_push.2.2.2 ∈ zTs := zTb2 144 (by decide +kernel) rfl
theorem ld_X2_push : mX2_push.1.cls ≠ "java/lang/invoke/MethodHandle" ∧ mX2_push.1.cls ≠ "java/lang/invoke/VarHandle" ∧ (parseMethodDescriptor mX2_push.1.desc).map (fun d => d.parameters.length) = some 2 ∧ mX2_push.2.2.1 ≤ 45 := ⟨by decide, by decide, by decide +kernel, by decide⟩
theorem le_X2_push : Cond.static mX2_push.1 ∈ zTs := zTb2 143 (by decide +kernel) rfl
theorem li_X2_push : Cond.initialized mX2_push.1.cls ∈ zTs := zTb1 6 (by decide +kernel) rfl
theorem lc_X2_stirred : Cond.code mX2_stirred.1 mX2_stirred.2.1 mX2_stirred.2.2.1 mX2_stirred.2.2.2 ∈ zTs := zTb2 147 (by decide +kernel) rfl
theorem ld_X2_stirred : mX2_stirred.1.cls ≠ "java/lang/invoke/MethodHandle" ∧ mX2_stirred.1.cls ≠ "java/lang/invoke/VarHandle" ∧ (parseMethodDescriptor mX2_stirred.1.desc).map (fun d => d.parameters.length) = some 3 ∧ mX2_stirred.2.2.1 ≤ 45 := ⟨by decide, by decide, by decide +kernel, by decide⟩
theorem le_X2_stirred : Cond.static mX2_stirred.1 ∈ zTs := zTb2 146 (by decide +kernel) rfl
theorem li_X2_stirred : Cond.initialized mX2_stirred.1.cls ∈ zTs := zTb1 6 (by decide +kernel) rfl
theorem lc_X2_open : Cond.code mX2_open.1 mX2_open.2.1 mX2_open.2.2.1 mX2_open.2.2.2 ∈ zTs := zTb3 239 (by decide +kernel) rfl
theorem ld_X2_open : mX2_open.1.cls ≠ "java/lang/invoke/MethodHandle" ∧ mX2_open.1.cls ≠ "java/lang/invoke/VarHandle" ∧ (parseMethodDescriptor mX2_open.1.desc).map (fun d => d.parameters.length) = some 1 ∧ mX2_open.2.2.1 ≤ 45 := ⟨by decide, by decide, by decide +kernel, by decide⟩
theorem le_X2_open : Cond.instanceMethod mX2_open.1 ∈ zTs ∧ Cond.selects mX2_open.1.cls mX2_open.1 mX2_open.1 ∈ zTs := ⟨zTb3 237 (by decide +kernel) rfl, zTb3 238 (by decide +kernel) rfl⟩
theorem li_X2_open : Cond.initialized mX2_open.1.cls ∈ zTs := zTb1 6 (by decide +kernel) rfl
theorem lc_X2_copyFrom : Cond.code mX2_copyFrom.1 mX2_copyFrom.2.1 mX2_copyFrom.2.2.1 mX2_copyFrom.2.2.2 ∈ zTs := zTb2 187 (by decide +kernel) rfl
theorem ld_X2_copyFrom : mX2_copyFrom.1.cls ≠ "java/lang/invoke/MethodHandle" ∧ mX2_copyFrom.1.cls ≠ "java/lang/invoke/VarHandle" ∧ (parseMethodDescriptor mX2_copyFrom.1.desc).map (fun d => d.parameters.length) = some 1 ∧ mX2_copyFrom.2.2.1 ≤ 45 := ⟨by decide, by decide, by decide +kernel, by decide⟩
theorem le_X2_copyFrom : Cond.instanceMethod mX2_copyFrom.1 ∈ zTs ∧ Cond.selects mX2_copyFrom.1.cls mX2_copyFrom.1 mX2_copyFrom.1 ∈ zTs := ⟨zTb2 185 (by decide +kernel) rfl, zTb2 186 (by decide +kernel) rfl⟩
theorem li_X2_copyFrom : Cond.initialized mX2_copyFrom.1.cls ∈ zTs := zTb1 6 (by decide +kernel) rfl
theorem lc_X2_save : Cond.code mX2_save.1 mX2_save.2.1 mX2_save.2.2.1 mX2_save.2.2.2 ∈ zTs := zTb2 103 (by decide +kernel) rfl
theorem ld_X2_save : mX2_save.1.cls ≠ "java/lang/invoke/MethodHandle" ∧ mX2_save.1.cls ≠ "java/lang/invoke/VarHandle" ∧ (parseMethodDescriptor mX2_save.1.desc).map (fun d => d.parameters.length) = some 2 ∧ mX2_save.2.2.1 ≤ 45 := ⟨by decide, by decide, by decide +kernel, by decide⟩
theorem le_X2_save : Cond.instanceMethod mX2_save.1 ∈ zTs ∧ Cond.selects mX2_save.1.cls mX2_save.1 mX2_save.1 ∈ zTs := ⟨zTb2 101 (by decide +kernel) rfl, zTb2 102 (by decide +kernel) rfl⟩
theorem li_X2_save : Cond.initialized mX2_save.1.cls ∈ zTs := zTb1 6 (by decide +kernel) rfl
theorem lc_X2_load : Cond.code mX2_load.1 mX2_load.2.1 mX2_load.2.2.1 mX2_load.2.2.2 ∈ zTs := zTb2 175 (by decide +kernel) rfl
theorem ld_X2_load : mX2_load.1.cls ≠ "java/lang/invoke/MethodHandle" ∧ mX2_load.1.cls ≠ "java/lang/invoke/VarHandle" ∧ (parseMethodDescriptor mX2_load.1.desc).map (fun d => d.parameters.length) = some 2 ∧ mX2_load.2.2.1 ≤ 45 := ⟨by decide, by decide, by decide +kernel, by decide⟩
theorem le_X2_load : Cond.instanceMethod mX2_load.1 ∈ zTs ∧ Cond.selects mX2_load.1.cls mX2_load.1 mX2_load.1 ∈ zTs := ⟨zTb2 173 (by decide +kernel) rfl, zTb2 174 (by decide +kernel) rfl⟩
theorem li_X2_load : Cond.initialized mX2_load.1.cls ∈ zTs := zTb1 6 (by decide +kernel) rfl
theorem lc_X4_survey : Cond.code mX4_survey.1 mX4_survey.2.1 mX4_survey.2.2.1 mX4_survey.2.2.2 ∈ zTs := zTb2 122 (by decide +kernel) rfl
theorem ld_X4_survey : mX4_survey.1.cls ≠ "java/lang/invoke/MethodHandle" ∧ mX4_survey.1.cls ≠ "java/lang/invoke/VarHandle" ∧ (parseMethodDescriptor mX4_survey.1.desc).map (fun d => d.parameters.length) = some 2 ∧ mX4_survey.2.2.1 ≤ 45 := ⟨by decide, by decide, by decide +kernel, by decide⟩
theorem le_X4_survey : Cond.instanceMethod mX4_survey.1 ∈ zTs ∧ Cond.selects mX4_survey.1.cls mX4_survey.1 mX4_survey.1 ∈ zTs := ⟨zTb2 120 (by decide +kernel) rfl, zTb2 121 (by decide +kernel) rfl⟩
theorem li_X4_survey : Cond.initialized mX4_survey.1.cls ∈ zTs := zTb1 4 (by decide +kernel) rfl
theorem lc_X4_named : Cond.code mX4_named.1 mX4_named.2.1 mX4_named.2.2.1 mX4_named.2.2.2 ∈ zTs := zTb2 132 (by decide +kernel) rfl
theorem ld_X4_named : mX4_named.1.cls ≠ "java/lang/invoke/MethodHandle" ∧ mX4_named.1.cls ≠ "java/lang/invoke/VarHandle" ∧ (parseMethodDescriptor mX4_named.1.desc).map (fun d => d.parameters.length) = some 4 ∧ mX4_named.2.2.1 ≤ 45 := ⟨by decide, by decide, by decide +kernel, by decide⟩
theorem le_X4_named : Cond.instanceMethod mX4_named.1 ∈ zTs ∧ Cond.selects mX4_named.1.cls mX4_named.1 mX4_named.1 ∈ zTs := ⟨zTb2 131 (by decide +kernel) rfl, zTb0 2 (by decide +kernel)⟩
theorem li_X4_named : Cond.initialized mX4_named.1.cls ∈ zTs := zTb1 4 (by decide +kernel) rfl
theorem lc_X4_joined : Cond.code mX4_joined.1 mX4_joined.2.1 mX4_joined.2.2.1 mX4_joined.2.2.2 ∈ zTs := zTb2 135 (by decide +kernel) rfl
theorem ld_X4_joined : mX4_joined.1.cls ≠ "java/lang/invoke/MethodHandle" ∧ mX4_joined.1.cls ≠ "java/lang/invoke/VarHandle" ∧ (parseMethodDescriptor mX4_joined.1.desc).map (fun d => d.parameters.length) = some 3 ∧ mX4_joined.2.2.1 ≤ 45 := ⟨by decide, by decide, by decide +kernel, by decide⟩
theorem le_X4_joined : Cond.static mX4_joined.1 ∈ zTs := zTb2 134 (by decide +kernel) rfl
theorem li_X4_joined : Cond.initialized mX4_joined.1.cls ∈ zTs := zTb1 4 (by decide +kernel) rfl
theorem lc_X5_append : Cond.code mX5_append.1 mX5_append.2.1 mX5_append.2.2.1 mX5_append.2.2.2 ∈ zTs := zTb2 87 (by decide +kernel) rfl
theorem ld_X5_append : mX5_append.1.cls ≠ "java/lang/invoke/MethodHandle" ∧ mX5_append.1.cls ≠ "java/lang/invoke/VarHandle" ∧ (parseMethodDescriptor mX5_append.1.desc).map (fun d => d.parameters.length) = some 1 ∧ mX5_append.2.2.1 ≤ 45 := ⟨by decide, by decide, by decide +kernel, by decide⟩
theorem le_X5_append : Cond.instanceMethod mX5_append.1 ∈ zTs ∧ Cond.selects mX5_append.1.cls mX5_append.1 mX5_append.1 ∈ zTs := ⟨zTb2 86 (by decide +kernel) rfl, zTb0 0 (by decide +kernel)⟩
theorem li_X5_append : Cond.initialized mX5_append.1.cls ∈ zTs := zTb1 1 (by decide +kernel) rfl
theorem lc_X0_takeDown : Cond.code mX0_takeDown.1 mX0_takeDown.2.1 mX0_takeDown.2.2.1 mX0_takeDown.2.2.2 ∈ zTs := zTb3 60 (by decide +kernel) rfl
theorem ld_X0_takeDown : mX0_takeDown.1.cls ≠ "java/lang/invoke/MethodHandle" ∧ mX0_takeDown.1.cls ≠ "java/lang/invoke/VarHandle" ∧ (parseMethodDescriptor mX0_takeDown.1.desc).map (fun d => d.parameters.length) = some 2 ∧ mX0_takeDown.2.2.1 ≤ 45 := ⟨by decide, by decide, by decide +kernel, by decide⟩
theorem le_X0_takeDown : Cond.instanceMethod mX0_takeDown.1 ∈ zTs ∧ Cond.selects mX0_takeDown.1.cls mX0_takeDown.1 mX0_takeDown.1 ∈ zTs := ⟨zTb3 58 (by decide +kernel) rfl, zTb3 59 (by decide +kernel) rfl⟩
theorem li_X0_takeDown : Cond.initialized mX0_takeDown.1.cls ∈ zTs := zTb1 3 (by decide +kernel) rfl
theorem lc_X0_handOver : Cond.code mX0_handOver.1 mX0_handOver.2.1 mX0_handOver.2.2.1 mX0_handOver.2.2.2 ∈ zTs := zTb3 231 (by decide +kernel) rfl
theorem ld_X0_handOver : mX0_handOver.1.cls ≠ "java/lang/invoke/MethodHandle" ∧ mX0_handOver.1.cls ≠ "java/lang/invoke/VarHandle" ∧ (parseMethodDescriptor mX0_handOver.1.desc).map (fun d => d.parameters.length) = some 1 ∧ mX0_handOver.2.2.1 ≤ 45 := ⟨by decide, by decide, by decide +kernel, by decide⟩
theorem le_X0_handOver : Cond.instanceMethod mX0_handOver.1 ∈ zTs ∧ Cond.selects mX0_handOver.1.cls mX0_handOver.1 mX0_handOver.1 ∈ zTs := ⟨zTb3 229 (by decide +kernel) rfl, zTb3 230 (by decide +kernel) rfl⟩
theorem li_X0_handOver : Cond.initialized mX0_handOver.1.cls ∈ zTs := zTb1 3 (by decide +kernel) rfl
theorem lc_X3_open : Cond.code mX3_open.1 mX3_open.2.1 mX3_open.2.2.1 mX3_open.2.2.2 ∈ zTs := zTb3 235 (by decide +kernel) rfl
theorem ld_X3_open : mX3_open.1.cls ≠ "java/lang/invoke/MethodHandle" ∧ mX3_open.1.cls ≠ "java/lang/invoke/VarHandle" ∧ (parseMethodDescriptor mX3_open.1.desc).map (fun d => d.parameters.length) = some 1 ∧ mX3_open.2.2.1 ≤ 45 := ⟨by decide, by decide, by decide +kernel, by decide⟩
theorem le_X3_open : Cond.instanceMethod mX3_open.1 ∈ zTs ∧ Cond.selects mX3_open.1.cls mX3_open.1 mX3_open.1 ∈ zTs := ⟨zTb3 233 (by decide +kernel) rfl, zTb3 234 (by decide +kernel) rfl⟩
theorem li_X3_open : Cond.initialized mX3_open.1.cls ∈ zTs := zTb1 5 (by decide +kernel) rfl
theorem lc_X5_surveyed : Cond.code mX5_surveyed.1 mX5_surveyed.2.1 mX5_surveyed.2.2.1 mX5_surveyed.2.2.2 ∈ zTs := zTb4 11 (by decide +kernel) rfl
theorem ld_X5_surveyed : mX5_surveyed.1.cls ≠ "java/lang/invoke/MethodHandle" ∧ mX5_surveyed.1.cls ≠ "java/lang/invoke/VarHandle" ∧ (parseMethodDescriptor mX5_surveyed.1.desc).map (fun d => d.parameters.length) = some 1 ∧ mX5_surveyed.2.2.1 ≤ 45 := ⟨by decide, by decide, by decide +kernel, by decide⟩
theorem le_X5_surveyed : Cond.instanceMethod mX5_surveyed.1 ∈ zTs ∧ Cond.selects mX5_surveyed.1.cls mX5_surveyed.1 mX5_surveyed.1 ∈ zTs := ⟨zTb4 10 (by decide +kernel) rfl, zTb0 30 (by decide +kernel)⟩
theorem li_X5_surveyed : Cond.initialized mX5_surveyed.1.cls ∈ zTs := zTb1 1 (by decide +kernel) rfl
theorem lc_X4_widestGap : Cond.code mX4_widestGap.1 mX4_widestGap.2.1 mX4_widestGap.2.2.1 mX4_widestGap.2.2.2 ∈ zTs := zTb4 16 (by decide +kernel) rfl
theorem ld_X4_widestGap : mX4_widestGap.1.cls ≠ "java/lang/invoke/MethodHandle" ∧ mX4_widestGap.1.cls ≠ "java/lang/invoke/VarHandle" ∧ (parseMethodDescriptor mX4_widestGap.1.desc).map (fun d => d.parameters.length) = some 0 ∧ mX4_widestGap.2.2.1 ≤ 45 := ⟨by decide, by decide, by decide +kernel, by decide⟩
theorem le_X4_widestGap : Cond.instanceMethod mX4_widestGap.1 ∈ zTs ∧ Cond.selects mX4_widestGap.1.cls mX4_widestGap.1 mX4_widestGap.1 ∈ zTs := ⟨zTb4 14 (by decide +kernel) rfl, zTb4 15 (by decide +kernel) rfl⟩
theorem li_X4_widestGap : Cond.initialized mX4_widestGap.1.cls ∈ zTs := zTb1 4 (by decide +kernel) rfl
theorem lc_X5_needLeaf : Cond.code mX5_needLeaf.1 mX5_needLeaf.2.1 mX5_needLeaf.2.2.1 mX5_needLeaf.2.2.2 ∈ zTs := zTb4 43 (by decide +kernel) rfl
theorem ld_X5_needLeaf : mX5_needLeaf.1.cls ≠ "java/lang/invoke/MethodHandle" ∧ mX5_needLeaf.1.cls ≠ "java/lang/invoke/VarHandle" ∧ (parseMethodDescriptor mX5_needLeaf.1.desc).map (fun d => d.parameters.length) = some 1 ∧ mX5_needLeaf.2.2.1 ≤ 45 := ⟨by decide, by decide, by decide +kernel, by decide⟩
theorem le_X5_needLeaf : Cond.instanceMethod mX5_needLeaf.1 ∈ zTs ∧ Cond.selects mX5_needLeaf.1.cls mX5_needLeaf.1 mX5_needLeaf.1 ∈ zTs := ⟨zTb4 42 (by decide +kernel) rfl, zTb0 31 (by decide +kernel)⟩
theorem li_X5_needLeaf : Cond.initialized mX5_needLeaf.1.cls ∈ zTs := zTb1 1 (by decide +kernel) rfl
theorem lc_X5_needJudge : Cond.code mX5_needJudge.1 mX5_needJudge.2.1 mX5_needJudge.2.2.1 mX5_needJudge.2.2.2 ∈ zTs := zTb4 56 (by decide +kernel) rfl
theorem ld_X5_needJudge : mX5_needJudge.1.cls ≠ "java/lang/invoke/MethodHandle" ∧ mX5_needJudge.1.cls ≠ "java/lang/invoke/VarHandle" ∧ (parseMethodDescriptor mX5_needJudge.1.desc).map (fun d => d.parameters.length) = some 1 ∧ mX5_needJudge.2.2.1 ≤ 45 := ⟨by decide, by decide, by decide +kernel, by decide⟩
theorem le_X5_needJudge : Cond.instanceMethod mX5_needJudge.1 ∈ zTs ∧ Cond.selects mX5_needJudge.1.cls mX5_needJudge.1 mX5_needJudge.1 ∈ zTs := ⟨zTb4 55 (by decide +kernel) rfl, zTb0 32 (by decide +kernel)⟩
theorem li_X5_needJudge : Cond.initialized mX5_needJudge.1.cls ∈ zTs := zTb1 1 (by decide +kernel) rfl
theorem lc_X5_partyOf : Cond.code mX5_partyOf.1 mX5_partyOf.2.1 mX5_partyOf.2.2.1 mX5_partyOf.2.2.2 ∈ zTs := zTb4 65 (by decide +kernel) rfl
theorem ld_X5_partyOf : mX5_partyOf.1.cls ≠ "java/lang/invoke/MethodHandle" ∧ mX5_partyOf.1.cls ≠ "java/lang/invoke/VarHandle" ∧ (parseMethodDescriptor mX5_partyOf.1.desc).map (fun d => d.parameters.length) = some 1 ∧ mX5_partyOf.2.2.1 ≤ 45 := ⟨by decide, by decide, by decide +kernel, by decide⟩
theorem le_X5_partyOf : Cond.instanceMethod mX5_partyOf.1 ∈ zTs ∧ Cond.selects mX5_partyOf.1.cls mX5_partyOf.1 mX5_partyOf.1 ∈ zTs := ⟨zTb4 64 (by decide +kernel) rfl, zTb0 33 (by decide +kernel)⟩
theorem li_X5_partyOf : Cond.initialized mX5_partyOf.1.cls ∈ zTs := zTb1 1 (by decide +kernel) rfl
theorem lc_X5_needPlace : Cond.code mX5_needPlace.1 mX5_needPlace.2.1 mX5_needPlace.2.2.1 mX5_needPlace.2.2.2 ∈ zTs := zTb4 84 (by decide +kernel) rfl
theorem ld_X5_needPlace : mX5_needPlace.1.cls ≠ "java/lang/invoke/MethodHandle" ∧ mX5_needPlace.1.cls ≠ "java/lang/invoke/VarHandle" ∧ (parseMethodDescriptor mX5_needPlace.1.desc).map (fun d => d.parameters.length) = some 1 ∧ mX5_needPlace.2.2.1 ≤ 45 := ⟨by decide, by decide, by decide +kernel, by decide⟩
theorem le_X5_needPlace : Cond.static mX5_needPlace.1 ∈ zTs := zTb4 83 (by decide +kernel) rfl
theorem li_X5_needPlace : Cond.initialized mX5_needPlace.1.cls ∈ zTs := zTb1 1 (by decide +kernel) rfl
theorem lc_J9_abs_0f7a4 : Cond.code mJ9_abs_0f7a4.1 mJ9_abs_0f7a4.2.1 mJ9_abs_0f7a4.2.2.1 mJ9_abs_0f7a4.2.2.2 ∈ zTs := zTb5 24 (by decide +kernel) rfl
theorem ld_J9_abs_0f7a4 : mJ9_abs_0f7a4.1.cls ≠ "java/lang/invoke/MethodHandle" ∧ mJ9_abs_0f7a4.1.cls ≠ "java/lang/invoke/VarHandle" ∧ (parseMethodDescriptor mJ9_abs_0f7a4.1.desc).map (fun d => d.parameters.length) = some 1 ∧ mJ9_abs_0f7a4.2.2.1 ≤ 45 := ⟨by decide, by decide, by decide +kernel, by decide⟩
theorem le_J9_abs_0f7a4 : Cond.static mJ9_abs_0f7a4.1 ∈ zTs := zTb5 23 (by decide +kernel) rfl
theorem li_J9_abs_0f7a4 : Cond.initialized mJ9_abs_0f7a4.1.cls ∈ zTs := zTb1 12 (by decide +kernel) rfl
theorem lc_X5_needWithin : Cond.code mX5_needWithin.1 mX5_needWithin.2.1 mX5_needWithin.2.2.1 mX5_needWithin.2.2.2 ∈ zTs := zTb4 125 (by decide +kernel) rfl
theorem ld_X5_needWithin : mX5_needWithin.1.cls ≠ "java/lang/invoke/MethodHandle" ∧ mX5_needWithin.1.cls ≠ "java/lang/invoke/VarHandle" ∧ (parseMethodDescriptor mX5_needWithin.1.desc).map (fun d => d.parameters.length) = some 3 ∧ mX5_needWithin.2.2.1 ≤ 45 := ⟨by decide, by decide, by decide +kernel, by decide⟩
theorem le_X5_needWithin : Cond.static mX5_needWithin.1 ∈ zTs := zTb4 124 (by decide +kernel) rfl
theorem li_X5_needWithin : Cond.initialized mX5_needWithin.1.cls ∈ zTs := zTb1 1 (by decide +kernel) rfl
theorem lc_X3_keepAct : Cond.code mX3_keepAct.1 mX3_keepAct.2.1 mX3_keepAct.2.2.1 mX3_keepAct.2.2.2 ∈ zTs := zTb2 99 (by decide +kernel) rfl
theorem ld_X3_keepAct : mX3_keepAct.1.cls ≠ "java/lang/invoke/MethodHandle" ∧ mX3_keepAct.1.cls ≠ "java/lang/invoke/VarHandle" ∧ (parseMethodDescriptor mX3_keepAct.1.desc).map (fun d => d.parameters.length) = some 0 ∧ mX3_keepAct.2.2.1 ≤ 45 := ⟨by decide, by decide, by decide +kernel, by decide⟩
theorem le_X3_keepAct : Cond.instanceMethod mX3_keepAct.1 ∈ zTs ∧ Cond.selects mX3_keepAct.1.cls mX3_keepAct.1 mX3_keepAct.1 ∈ zTs := ⟨zTb2 97 (by decide +kernel) rfl, zTb2 98 (by decide +kernel) rfl⟩
theorem li_X3_keepAct : Cond.initialized mX3_keepAct.1.cls ∈ zTs := zTb1 5 (by decide +kernel) rfl
theorem lc_X2_hear : Cond.code mX2_hear.1 mX2_hear.2.1 mX2_hear.2.2.1 mX2_hear.2.2.2 ∈ zTs := zTb2 110 (by decide +kernel) rfl
theorem ld_X2_hear : mX2_hear.1.cls ≠ "java/lang/invoke/MethodHandle" ∧ mX2_hear.1.cls ≠ "java/lang/invoke/VarHandle" ∧ (parseMethodDescriptor mX2_hear.1.desc).map (fun d => d.parameters.length) = some 2 ∧ mX2_hear.2.2.1 ≤ 45 := ⟨by decide, by decide, by decide +kernel, by decide⟩
theorem le_X2_hear : Cond.instanceMethod mX2_hear.1 ∈ zTs ∧ Cond.selects mX2_hear.1.cls mX2_hear.1 mX2_hear.1 ∈ zTs := ⟨zTb2 108 (by decide +kernel) rfl, zTb2 109 (by decide +kernel) rfl⟩
theorem li_X2_hear : Cond.initialized mX2_hear.1.cls ∈ zTs := zTb1 6 (by decide +kernel) rfl
theorem lc_X2_swap : Cond.code mX2_swap.1 mX2_swap.2.1 mX2_swap.2.2.1 mX2_swap.2.2.2 ∈ zTs := zTb4 96 (by decide +kernel) rfl
theorem ld_X2_swap : mX2_swap.1.cls ≠ "java/lang/invoke/MethodHandle" ∧ mX2_swap.1.cls ≠ "java/lang/invoke/VarHandle" ∧ (parseMethodDescriptor mX2_swap.1.desc).map (fun d => d.parameters.length) = some 3 ∧ mX2_swap.2.2.1 ≤ 45 := ⟨by decide, by decide, by decide +kernel, by decide⟩
theorem le_X2_swap : Cond.instanceMethod mX2_swap.1 ∈ zTs ∧ Cond.selects mX2_swap.1.cls mX2_swap.1 mX2_swap.1 ∈ zTs := ⟨zTb4 94 (by decide +kernel) rfl, zTb4 95 (by decide +kernel) rfl⟩
theorem li_X2_swap : Cond.initialized mX2_swap.1.cls ∈ zTs := zTb1 6 (by decide +kernel) rfl
theorem lc_X3_takeBackAct : Cond.code mX3_takeBackAct.1 mX3_takeBackAct.2.1 mX3_takeBackAct.2.2.1 mX3_takeBackAct.2.2.2 ∈ zTs := zTb2 171 (by decide +kernel) rfl
theorem ld_X3_takeBackAct : mX3_takeBackAct.1.cls ≠ "java/lang/invoke/MethodHandle" ∧ mX3_takeBackAct.1.cls ≠ "java/lang/invoke/VarHandle" ∧ (parseMethodDescriptor mX3_takeBackAct.1.desc).map (fun d => d.parameters.length) = some 0 ∧ mX3_takeBackAct.2.2.1 ≤ 45 := ⟨by decide, by decide, by decide +kernel, by decide⟩
theorem le_X3_takeBackAct : Cond.instanceMethod mX3_takeBackAct.1 ∈ zTs ∧ Cond.selects mX3_takeBackAct.1.cls mX3_takeBackAct.1 mX3_takeBackAct.1 ∈ zTs := ⟨zTb2 169 (by decide +kernel) rfl, zTb2 170 (by decide +kernel) rfl⟩
theorem li_X3_takeBackAct : Cond.initialized mX3_takeBackAct.1.cls ∈ zTs := zTb1 5 (by decide +kernel) rfl
theorem lc_X5_startTrial : Cond.code mX5_startTrial.1 mX5_startTrial.2.1 mX5_startTrial.2.2.1 mX5_startTrial.2.2.2 ∈ zTs := zTb2 183 (by decide +kernel) rfl
theorem ld_X5_startTrial : mX5_startTrial.1.cls ≠ "java/lang/invoke/MethodHandle" ∧ mX5_startTrial.1.cls ≠ "java/lang/invoke/VarHandle" ∧ (parseMethodDescriptor mX5_startTrial.1.desc).map (fun d => d.parameters.length) = some 0 ∧ mX5_startTrial.2.2.1 ≤ 45 := ⟨by decide, by decide, by decide +kernel, by decide⟩
theorem le_X5_startTrial : Cond.instanceMethod mX5_startTrial.1 ∈ zTs ∧ Cond.selects mX5_startTrial.1.cls mX5_startTrial.1 mX5_startTrial.1 ∈ zTs := ⟨zTb2 182 (by decide +kernel) rfl, zTb0 5 (by decide +kernel)⟩
theorem li_X5_startTrial : Cond.initialized mX5_startTrial.1.cls ∈ zTs := zTb1 1 (by decide +kernel) rfl
theorem lc_X5_needWhat : Cond.code mX5_needWhat.1 mX5_needWhat.2.1 mX5_needWhat.2.2.1 mX5_needWhat.2.2.2 ∈ zTs := zTb4 121 (by decide +kernel) rfl
theorem ld_X5_needWhat : mX5_needWhat.1.cls ≠ "java/lang/invoke/MethodHandle" ∧ mX5_needWhat.1.cls ≠ "java/lang/invoke/VarHandle" ∧ (parseMethodDescriptor mX5_needWhat.1.desc).map (fun d => d.parameters.length) = some 2 ∧ mX5_needWhat.2.2.1 ≤ 45 := ⟨by decide, by decide, by decide +kernel, by decide⟩
theorem le_X5_needWhat : Cond.static mX5_needWhat.1 ∈ zTs := zTb4 120 (by decide +kernel) rfl
theorem li_X5_needWhat : Cond.initialized mX5_needWhat.1.cls ∈ zTs := zTb1 1 (by decide +kernel) rfl
theorem lc_X5_goAhead : Cond.code mX5_goAhead.1 mX5_goAhead.2.1 mX5_goAhead.2.2.1 mX5_goAhead.2.2.2 ∈ zTs := zTb4 130 (by decide +kernel) rfl
theorem ld_X5_goAhead : mX5_goAhead.1.cls ≠ "java/lang/invoke/MethodHandle" ∧ mX5_goAhead.1.cls ≠ "java/lang/invoke/VarHandle" ∧ (parseMethodDescriptor mX5_goAhead.1.desc).map (fun d => d.parameters.length) = some 1 ∧ mX5_goAhead.2.2.1 ≤ 45 := ⟨by decide, by decide, by decide +kernel, by decide⟩
theorem le_X5_goAhead : Cond.instanceMethod mX5_goAhead.1 ∈ zTs ∧ Cond.selects mX5_goAhead.1.cls mX5_goAhead.1 mX5_goAhead.1 ∈ zTs := ⟨zTb4 129 (by decide +kernel) rfl, zTb0 34 (by decide +kernel)⟩
theorem li_X5_goAhead : Cond.initialized mX5_goAhead.1.cls ∈ zTs := zTb1 1 (by decide +kernel) rfl
theorem lc_X5_needVerdict : Cond.code mX5_needVerdict.1 mX5_needVerdict.2.1 mX5_needVerdict.2.2.1 mX5_needVerdict.2.2.2 ∈ zTs := zTb4 147 (by decide +kernel) rfl
theorem ld_X5_needVerdict : mX5_needVerdict.1.cls ≠ "java/lang/invoke/MethodHandle" ∧ mX5_needVerdict.1.cls ≠ "java/lang/invoke/VarHandle" ∧ (parseMethodDescriptor mX5_needVerdict.1.desc).map (fun d => d.parameters.length) = some 1 ∧ mX5_needVerdict.2.2.1 ≤ 45 := ⟨by decide, by decide, by decide +kernel, by decide⟩
theorem le_X5_needVerdict : Cond.static mX5_needVerdict.1 ∈ zTs := zTb4 146 (by decide +kernel) rfl
theorem li_X5_needVerdict : Cond.initialized mX5_needVerdict.1.cls ∈ zTs := zTb1 1 (by decide +kernel) rfl
theorem lc_X5_nextVerdict : Cond.code mX5_nextVerdict.1 mX5_nextVerdict.2.1 mX5_nextVerdict.2.2.1 mX5_nextVerdict.2.2.2 ∈ zTs := zTb2 199 (by decide +kernel) rfl
theorem ld_X5_nextVerdict : mX5_nextVerdict.1.cls ≠ "java/lang/invoke/MethodHandle" ∧ mX5_nextVerdict.1.cls ≠ "java/lang/invoke/VarHandle" ∧ (parseMethodDescriptor mX5_nextVerdict.1.desc).map (fun d => d.parameters.length) = some 0 ∧ mX5_nextVerdict.2.2.1 ≤ 45 := ⟨by decide, by decide, by decide +kernel, by decide⟩
theorem le_X5_nextVerdict : Cond.instanceMethod mX5_nextVerdict.1 ∈ zTs ∧ Cond.selects mX5_nextVerdict.1.cls mX5_nextVerdict.1 mX5_nextVerdict.1 ∈ zTs := ⟨zTb2 198 (by decide +kernel) rfl, zTb0 6 (by decide +kernel)⟩
theorem li_X5_nextVerdict : Cond.initialized mX5_nextVerdict.1.cls ∈ zTs := zTb1 1 (by decide +kernel) rfl
theorem lc_X2_liesLike : Cond.code mX2_liesLike.1 mX2_liesLike.2.1 mX2_liesLike.2.2.1 mX2_liesLike.2.2.2 ∈ zTs := zTb2 191 (by decide +kernel) rfl
theorem ld_X2_liesLike : mX2_liesLike.1.cls ≠ "java/lang/invoke/MethodHandle" ∧ mX2_liesLike.1.cls ≠ "java/lang/invoke/VarHandle" ∧ (parseMethodDescriptor mX2_liesLike.1.desc).map (fun d => d.parameters.length) = some 2 ∧ mX2_liesLike.2.2.1 ≤ 45 := ⟨by decide, by decide, by decide +kernel, by decide⟩
theorem le_X2_liesLike : Cond.instanceMethod mX2_liesLike.1 ∈ zTs ∧ Cond.selects mX2_liesLike.1.cls mX2_liesLike.1 mX2_liesLike.1 ∈ zTs := ⟨zTb2 189 (by decide +kernel) rfl, zTb2 190 (by decide +kernel) rfl⟩
theorem li_X2_liesLike : Cond.initialized mX2_liesLike.1.cls ∈ zTs := zTb1 6 (by decide +kernel) rfl
theorem lc_X5_clearTally : Cond.code mX5_clearTally.1 mX5_clearTally.2.1 mX5_clearTally.2.2.1 mX5_clearTally.2.2.2 ∈ zTs := zTb4 166 (by decide +kernel) rfl
theorem ld_X5_clearTally : mX5_clearTally.1.cls ≠ "java/lang/invoke/MethodHandle" ∧ mX5_clearTally.1.cls ≠ "java/lang/invoke/VarHandle" ∧ (parseMethodDescriptor mX5_clearTally.1.desc).map (fun d => d.parameters.length) = some 0 ∧ mX5_clearTally.2.2.1 ≤ 45 := ⟨by decide, by decide, by decide +kernel, by decide⟩
theorem le_X5_clearTally : Cond.instanceMethod mX5_clearTally.1 ∈ zTs ∧ Cond.selects mX5_clearTally.1.cls mX5_clearTally.1 mX5_clearTally.1 ∈ zTs := ⟨zTb4 165 (by decide +kernel) rfl, zTb0 35 (by decide +kernel)⟩
theorem li_X5_clearTally : Cond.initialized mX5_clearTally.1.cls ∈ zTs := zTb1 1 (by decide +kernel) rfl
theorem lc_X5_mostInTally : Cond.code mX5_mostInTally.1 mX5_mostInTally.2.1 mX5_mostInTally.2.2.1 mX5_mostInTally.2.2.2 ∈ zTs := zTb4 170 (by decide +kernel) rfl
theorem ld_X5_mostInTally : mX5_mostInTally.1.cls ≠ "java/lang/invoke/MethodHandle" ∧ mX5_mostInTally.1.cls ≠ "java/lang/invoke/VarHandle" ∧ (parseMethodDescriptor mX5_mostInTally.1.desc).map (fun d => d.parameters.length) = some 1 ∧ mX5_mostInTally.2.2.1 ≤ 45 := ⟨by decide, by decide, by decide +kernel, by decide⟩
theorem le_X5_mostInTally : Cond.instanceMethod mX5_mostInTally.1 ∈ zTs ∧ Cond.selects mX5_mostInTally.1.cls mX5_mostInTally.1 mX5_mostInTally.1 ∈ zTs := ⟨zTb4 169 (by decide +kernel) rfl, zTb0 36 (by decide +kernel)⟩
theorem li_X5_mostInTally : Cond.initialized mX5_mostInTally.1.cls ∈ zTs := zTb1 1 (by decide +kernel) rfl
theorem lc_X2_placesWithLeaves : Cond.code mX2_placesWithLeaves.1 mX2_placesWithLeaves.2.1 mX2_placesWithLeaves.2.2.1 mX2_placesWithLeaves.2.2.2 ∈ zTs := zTb4 181 (by decide +kernel) rfl
theorem ld_X2_placesWithLeaves : mX2_placesWithLeaves.1.cls ≠ "java/lang/invoke/MethodHandle" ∧ mX2_placesWithLeaves.1.cls ≠ "java/lang/invoke/VarHandle" ∧ (parseMethodDescriptor mX2_placesWithLeaves.1.desc).map (fun d => d.parameters.length) = some 1 ∧ mX2_placesWithLeaves.2.2.1 ≤ 45 := ⟨by decide, by decide, by decide +kernel, by decide⟩
theorem le_X2_placesWithLeaves : Cond.instanceMethod mX2_placesWithLeaves.1 ∈ zTs ∧ Cond.selects mX2_placesWithLeaves.1.cls mX2_placesWithLeaves.1 mX2_placesWithLeaves.1 ∈ zTs := ⟨zTb4 179 (by decide +kernel) rfl, zTb4 180 (by decide +kernel) rfl⟩
theorem li_X2_placesWithLeaves : Cond.initialized mX2_placesWithLeaves.1.cls ∈ zTs := zTb1 6 (by decide +kernel) rfl
theorem lc_X5_startOrder : Cond.code mX5_startOrder.1 mX5_startOrder.2.1 mX5_startOrder.2.2.1 mX5_startOrder.2.2.2 ∈ zTs := zTb4 192 (by decide +kernel) rfl
theorem ld_X5_startOrder : mX5_startOrder.1.cls ≠ "java/lang/invoke/MethodHandle" ∧ mX5_startOrder.1.cls ≠ "java/lang/invoke/VarHandle" ∧ (parseMethodDescriptor mX5_startOrder.1.desc).map (fun d => d.parameters.length) = some 0 ∧ mX5_startOrder.2.2.1 ≤ 45 := ⟨by decide, by decide, by decide +kernel, by decide⟩
theorem le_X5_startOrder : Cond.instanceMethod mX5_startOrder.1 ∈ zTs ∧ Cond.selects mX5_startOrder.1.cls mX5_startOrder.1 mX5_startOrder.1 ∈ zTs := ⟨zTb4 191 (by decide +kernel) rfl, zTb0 37 (by decide +kernel)⟩
theorem li_X5_startOrder : Cond.initialized mX5_startOrder.1.cls ∈ zTs := zTb1 1 (by decide +kernel) rfl
theorem lc_X5_verdictByOrder : Cond.code mX5_verdictByOrder.1 mX5_verdictByOrder.2.1 mX5_verdictByOrder.2.2.1 mX5_verdictByOrder.2.2.2 ∈ zTs := zTb4 196 (by decide +kernel) rfl
theorem ld_X5_verdictByOrder : mX5_verdictByOrder.1.cls ≠ "java/lang/invoke/MethodHandle" ∧ mX5_verdictByOrder.1.cls ≠ "java/lang/invoke/VarHandle" ∧ (parseMethodDescriptor mX5_verdictByOrder.1.desc).map (fun d => d.parameters.length) = some 0 ∧ mX5_verdictByOrder.2.2.1 ≤ 45 := ⟨by decide, by decide, by decide +kernel, by decide⟩
theorem le_X5_verdictByOrder : Cond.instanceMethod mX5_verdictByOrder.1 ∈ zTs ∧ Cond.selects mX5_verdictByOrder.1.cls mX5_verdictByOrder.1 mX5_verdictByOrder.1 ∈ zTs := ⟨zTb4 195 (by decide +kernel) rfl, zTb0 38 (by decide +kernel)⟩
theorem li_X5_verdictByOrder : Cond.initialized mX5_verdictByOrder.1.cls ∈ zTs := zTb1 1 (by decide +kernel) rfl
theorem lc_X5_nextOrder : Cond.code mX5_nextOrder.1 mX5_nextOrder.2.1 mX5_nextOrder.2.2.1 mX5_nextOrder.2.2.2 ∈ zTs := zTb4 200 (by decide +kernel) rfl
theorem ld_X5_nextOrder : mX5_nextOrder.1.cls ≠ "java/lang/invoke/MethodHandle" ∧ mX5_nextOrder.1.cls ≠ "java/lang/invoke/VarHandle" ∧ (parseMethodDescriptor mX5_nextOrder.1.desc).map (fun d => d.parameters.length) = some 1 ∧ mX5_nextOrder.2.2.1 ≤ 45 := ⟨by decide, by decide, by decide +kernel, by decide⟩
theorem le_X5_nextOrder : Cond.instanceMethod mX5_nextOrder.1 ∈ zTs ∧ Cond.selects mX5_nextOrder.1.cls mX5_nextOrder.1 mX5_nextOrder.1 ∈ zTs := ⟨zTb4 199 (by decide +kernel) rfl, zTb0 39 (by decide +kernel)⟩
theorem li_X5_nextOrder : Cond.initialized mX5_nextOrder.1.cls ∈ zTs := zTb1 1 (by decide +kernel) rfl
theorem lc_X5_swapInOrder : Cond.code mX5_swapInOrder.1 mX5_swapInOrder.2.1 mX5_swapInOrder.2.2.1 mX5_swapInOrder.2.2.2 ∈ zTs := zTb4 204 (by decide +kernel) rfl
theorem ld_X5_swapInOrder : mX5_swapInOrder.1.cls ≠ "java/lang/invoke/MethodHandle" ∧ mX5_swapInOrder.1.cls ≠ "java/lang/invoke/VarHandle" ∧ (parseMethodDescriptor mX5_swapInOrder.1.desc).map (fun d => d.parameters.length) = some 2 ∧ mX5_swapInOrder.2.2.1 ≤ 45 := ⟨by decide, by decide, by decide +kernel, by decide⟩
theorem le_X5_swapInOrder : Cond.instanceMethod mX5_swapInOrder.1 ∈ zTs ∧ Cond.selects mX5_swapInOrder.1.cls mX5_swapInOrder.1 mX5_swapInOrder.1 ∈ zTs := ⟨zTb4 203 (by decide +kernel) rfl, zTb0 40 (by decide +kernel)⟩
theorem li_X5_swapInOrder : Cond.initialized mX5_swapInOrder.1.cls ∈ zTs := zTb1 1 (by decide +kernel) rfl
theorem lc_X5_verdictIfTurned : Cond.code mX5_verdictIfTurned.1 mX5_verdictIfTurned.2.1 mX5_verdictIfTurned.2.2.1 mX5_verdictIfTurned.2.2.2 ∈ zTs := zTb2 203 (by decide +kernel) rfl
theorem ld_X5_verdictIfTurned : mX5_verdictIfTurned.1.cls ≠ "java/lang/invoke/MethodHandle" ∧ mX5_verdictIfTurned.1.cls ≠ "java/lang/invoke/VarHandle" ∧ (parseMethodDescriptor mX5_verdictIfTurned.1.desc).map (fun d => d.parameters.length) = some 1 ∧ mX5_verdictIfTurned.2.2.1 ≤ 45 := ⟨by decide, by decide, by decide +kernel, by decide⟩
theorem le_X5_verdictIfTurned : Cond.instanceMethod mX5_verdictIfTurned.1 ∈ zTs ∧ Cond.selects mX5_verdictIfTurned.1.cls mX5_verdictIfTurned.1 mX5_verdictIfTurned.1 ∈ zTs := ⟨zTb2 202 (by decide +kernel) rfl, zTb0 7 (by decide +kernel)⟩
theorem li_X5_verdictIfTurned : Cond.initialized mX5_verdictIfTurned.1.cls ∈ zTs := zTb1 1 (by decide +kernel) rfl
theorem lc_J6_bitCount_0f7a4 : Cond.code mJ6_bitCount_0f7a4.1 mJ6_bitCount_0f7a4.2.1 mJ6_bitCount_0f7a4.2.2.1 mJ6_bitCount_0f7a4.2.2.2 ∈ zTs := zTb4 214 (by decide +kernel) rfl
theorem ld_J6_bitCount_0f7a4 : mJ6_bitCount_0f7a4.1.cls ≠ "java/lang/invoke/MethodHandle" ∧ mJ6_bitCount_0f7a4.1.cls ≠ "java/lang/invoke/VarHandle" ∧ (parseMethodDescriptor mJ6_bitCount_0f7a4.1.desc).map (fun d => d.parameters.length) = some 1 ∧ mJ6_bitCount_0f7a4.2.2.1 ≤ 45 := ⟨by decide, by decide, by decide +kernel, by decide⟩
theorem le_J6_bitCount_0f7a4 : Cond.static mJ6_bitCount_0f7a4.1 ∈ zTs := zTb4 213 (by decide +kernel) rfl
theorem li_J6_bitCount_0f7a4 : Cond.initialized mJ6_bitCount_0f7a4.1.cls ∈ zTs := zTb1 19 (by decide +kernel) rfl
theorem lc_X5_trialIsAsRead : Cond.code mX5_trialIsAsRead.1 mX5_trialIsAsRead.2.1 mX5_trialIsAsRead.2.2.1 mX5_trialIsAsRead.2.2.2 ∈ zTs := zTb5 79 (by decide +kernel) rfl
theorem ld_X5_trialIsAsRead : mX5_trialIsAsRead.1.cls ≠ "java/lang/invoke/MethodHandle" ∧ mX5_trialIsAsRead.1.cls ≠ "java/lang/invoke/VarHandle" ∧ (parseMethodDescriptor mX5_trialIsAsRead.1.desc).map (fun d => d.parameters.length) = some 0 ∧ mX5_trialIsAsRead.2.2.1 ≤ 45 := ⟨by decide, by decide, by decide +kernel, by decide⟩
theorem le_X5_trialIsAsRead : Cond.instanceMethod mX5_trialIsAsRead.1 ∈ zTs ∧ Cond.selects mX5_trialIsAsRead.1.cls mX5_trialIsAsRead.1 mX5_trialIsAsRead.1 ∈ zTs := ⟨zTb5 78 (by decide +kernel) rfl, zTb0 41 (by decide +kernel)⟩
theorem li_X5_trialIsAsRead : Cond.initialized mX5_trialIsAsRead.1.cls ∈ zTs := zTb1 1 (by decide +kernel) rfl
theorem lc_X5_isHanded : Cond.code mX5_isHanded.1 mX5_isHanded.2.1 mX5_isHanded.2.2.1 mX5_isHanded.2.2.2 ∈ zTs := zTb5 92 (by decide +kernel) rfl
theorem ld_X5_isHanded : mX5_isHanded.1.cls ≠ "java/lang/invoke/MethodHandle" ∧ mX5_isHanded.1.cls ≠ "java/lang/invoke/VarHandle" ∧ (parseMethodDescriptor mX5_isHanded.1.desc).map (fun d => d.parameters.length) = some 2 ∧ mX5_isHanded.2.2.1 ≤ 45 := ⟨by decide, by decide, by decide +kernel, by decide⟩
theorem le_X5_isHanded : Cond.instanceMethod mX5_isHanded.1 ∈ zTs ∧ Cond.selects mX5_isHanded.1.cls mX5_isHanded.1 mX5_isHanded.1 ∈ zTs := ⟨zTb5 91 (by decide +kernel) rfl, zTb0 42 (by decide +kernel)⟩
theorem li_X5_isHanded : Cond.initialized mX5_isHanded.1.cls ∈ zTs := zTb1 1 (by decide +kernel) rfl
theorem lc_X3_lastReadCase : Cond.code mX3_lastReadCase.1 mX3_lastReadCase.2.1 mX3_lastReadCase.2.2.1 mX3_lastReadCase.2.2.2 ∈ zTs := zTb5 83 (by decide +kernel) rfl
theorem ld_X3_lastReadCase : mX3_lastReadCase.1.cls ≠ "java/lang/invoke/MethodHandle" ∧ mX3_lastReadCase.1.cls ≠ "java/lang/invoke/VarHandle" ∧ (parseMethodDescriptor mX3_lastReadCase.1.desc).map (fun d => d.parameters.length) = some 0 ∧ mX3_lastReadCase.2.2.1 ≤ 45 := ⟨by decide, by decide, by decide +kernel, by decide⟩
theorem le_X3_lastReadCase : Cond.instanceMethod mX3_lastReadCase.1 ∈ zTs ∧ Cond.selects mX3_lastReadCase.1.cls mX3_lastReadCase.1 mX3_lastReadCase.1 ∈ zTs := ⟨zTb5 81 (by decide +kernel) rfl, zTb5 82 (by decide +kernel) rfl⟩
theorem li_X3_lastReadCase : Cond.initialized mX3_lastReadCase.1.cls ∈ zTs := zTb1 5 (by decide +kernel) rfl
theorem lc_X3_couldBe : Cond.code mX3_couldBe.1 mX3_couldBe.2.1 mX3_couldBe.2.2.1 mX3_couldBe.2.2.2 ∈ zTs := zTb5 88 (by decide +kernel) rfl
theorem ld_X3_couldBe : mX3_couldBe.1.cls ≠ "java/lang/invoke/MethodHandle" ∧ mX3_couldBe.1.cls ≠ "java/lang/invoke/VarHandle" ∧ (parseMethodDescriptor mX3_couldBe.1.desc).map (fun d => d.parameters.length) = some 2 ∧ mX3_couldBe.2.2.1 ≤ 45 := ⟨by decide, by decide, by decide +kernel, by decide⟩
theorem le_X3_couldBe : Cond.instanceMethod mX3_couldBe.1 ∈ zTs ∧ Cond.selects mX3_couldBe.1.cls mX3_couldBe.1 mX3_couldBe.1 ∈ zTs := ⟨zTb5 86 (by decide +kernel) rfl, zTb5 87 (by decide +kernel) rfl⟩
theorem li_X3_couldBe : Cond.initialized mX3_couldBe.1.cls ∈ zTs := zTb1 5 (by decide +kernel) rfl
theorem lc_X5_noteIfAsRead : Cond.code mX5_noteIfAsRead.1 mX5_noteIfAsRead.2.1 mX5_noteIfAsRead.2.2.1 mX5_noteIfAsRead.2.2.2 ∈ zTs := zTb5 103 (by decide +kernel) rfl
theorem ld_X5_noteIfAsRead : mX5_noteIfAsRead.1.cls ≠ "java/lang/invoke/MethodHandle" ∧ mX5_noteIfAsRead.1.cls ≠ "java/lang/invoke/VarHandle" ∧ (parseMethodDescriptor mX5_noteIfAsRead.1.desc).map (fun d => d.parameters.length) = some 2 ∧ mX5_noteIfAsRead.2.2.1 ≤ 45 := ⟨by decide, by decide, by decide +kernel, by decide⟩
theorem le_X5_noteIfAsRead : Cond.instanceMethod mX5_noteIfAsRead.1 ∈ zTs ∧ Cond.selects mX5_noteIfAsRead.1.cls mX5_noteIfAsRead.1 mX5_noteIfAsRead.1 ∈ zTs := ⟨zTb5 102 (by decide +kernel) rfl, zTb0 43 (by decide +kernel)⟩
theorem li_X5_noteIfAsRead : Cond.initialized mX5_noteIfAsRead.1.cls ∈ zTs := zTb1 1 (by decide +kernel) rfl
theorem lc_X5_rests : Cond.code mX5_rests.1 mX5_rests.2.1 mX5_rests.2.2.1 mX5_rests.2.2.2 ∈ zTs := zTb5 115 (by decide +kernel) rfl
theorem ld_X5_rests : mX5_rests.1.cls ≠ "java/lang/invoke/MethodHandle" ∧ mX5_rests.1.cls ≠ "java/lang/invoke/VarHandle" ∧ (parseMethodDescriptor mX5_rests.1.desc).map (fun d => d.parameters.length) = some 3 ∧ mX5_rests.2.2.1 ≤ 45 := ⟨by decide, by decide, by decide +kernel, by decide⟩
theorem le_X5_rests : Cond.instanceMethod mX5_rests.1 ∈ zTs ∧ Cond.selects mX5_rests.1.cls mX5_rests.1 mX5_rests.1 ∈ zTs := ⟨zTb5 114 (by decide +kernel) rfl, zTb0 44 (by decide +kernel)⟩
theorem li_X5_rests : Cond.initialized mX5_rests.1.cls ∈ zTs := zTb1 1 (by decide +kernel) rfl
theorem lc_X5_gain : Cond.code mX5_gain.1 mX5_gain.2.1 mX5_gain.2.2.1 mX5_gain.2.2.2 ∈ zTs := zTb5 119 (by decide +kernel) rfl
theorem ld_X5_gain : mX5_gain.1.cls ≠ "java/lang/invoke/MethodHandle" ∧ mX5_gain.1.cls ≠ "java/lang/invoke/VarHandle" ∧ (parseMethodDescriptor mX5_gain.1.desc).map (fun d => d.parameters.length) = some 3 ∧ mX5_gain.2.2.1 ≤ 45 := ⟨by decide, by decide, by decide +kernel, by decide⟩
theorem le_X5_gain : Cond.instanceMethod mX5_gain.1 ∈ zTs ∧ Cond.selects mX5_gain.1.cls mX5_gain.1 mX5_gain.1 ∈ zTs := ⟨zTb5 118 (by decide +kernel) rfl, zTb0 45 (by decide +kernel)⟩
theorem li_X5_gain : Cond.initialized mX5_gain.1.cls ∈ zTs := zTb1 1 (by decide +kernel) rfl
theorem lc_X5_befall : Cond.code mX5_befall.1 mX5_befall.2.1 mX5_befall.2.2.1 mX5_befall.2.2.2 ∈ zTs := zTb5 130 (by decide +kernel) rfl
theorem ld_X5_befall : mX5_befall.1.cls ≠ "java/lang/invoke/MethodHandle" ∧ mX5_befall.1.cls ≠ "java/lang/invoke/VarHandle" ∧ (parseMethodDescriptor mX5_befall.1.desc).map (fun d => d.parameters.length) = some 0 ∧ mX5_befall.2.2.1 ≤ 45 := ⟨by decide, by decide, by decide +kernel, by decide⟩
theorem le_X5_befall : Cond.instanceMethod mX5_befall.1 ∈ zTs ∧ Cond.selects mX5_befall.1.cls mX5_befall.1 mX5_befall.1 ∈ zTs := ⟨zTb5 129 (by decide +kernel) rfl, zTb0 46 (by decide +kernel)⟩
theorem li_X5_befall : Cond.initialized mX5_befall.1.cls ∈ zTs := zTb1 1 (by decide +kernel) rfl
theorem lc_X5_draw : Cond.code mX5_draw.1 mX5_draw.2.1 mX5_draw.2.2.1 mX5_draw.2.2.2 ∈ zTs := zTb5 134 (by decide +kernel) rfl
theorem ld_X5_draw : mX5_draw.1.cls ≠ "java/lang/invoke/MethodHandle" ∧ mX5_draw.1.cls ≠ "java/lang/invoke/VarHandle" ∧ (parseMethodDescriptor mX5_draw.1.desc).map (fun d => d.parameters.length) = some 1 ∧ mX5_draw.2.2.1 ≤ 45 := ⟨by decide, by decide, by decide +kernel, by decide⟩
theorem le_X5_draw : Cond.instanceMethod mX5_draw.1 ∈ zTs ∧ Cond.selects mX5_draw.1.cls mX5_draw.1 mX5_draw.1 ∈ zTs := ⟨zTb5 133 (by decide +kernel) rfl, zTb0 47 (by decide +kernel)⟩
theorem li_X5_draw : Cond.initialized mX5_draw.1.cls ∈ zTs := zTb1 1 (by decide +kernel) rfl
theorem lc_X3_copyFrom : Cond.code mX3_copyFrom.1 mX3_copyFrom.2.1 mX3_copyFrom.2.2.1 mX3_copyFrom.2.2.2 ∈ zTs := zTb2 215 (by decide +kernel) rfl
theorem ld_X3_copyFrom : mX3_copyFrom.1.cls ≠ "java/lang/invoke/MethodHandle" ∧ mX3_copyFrom.1.cls ≠ "java/lang/invoke/VarHandle" ∧ (parseMethodDescriptor mX3_copyFrom.1.desc).map (fun d => d.parameters.length) = some 1 ∧ mX3_copyFrom.2.2.1 ≤ 45 := ⟨by decide, by decide, by decide +kernel, by decide⟩
theorem le_X3_copyFrom : Cond.instanceMethod mX3_copyFrom.1 ∈ zTs ∧ Cond.selects mX3_copyFrom.1.cls mX3_copyFrom.1 mX3_copyFrom.1 ∈ zTs := ⟨zTb2 213 (by decide +kernel) rfl, zTb2 214 (by decide +kernel) rfl⟩
theorem li_X3_copyFrom : Cond.initialized mX3_copyFrom.1.cls ∈ zTs := zTb1 5 (by decide +kernel) rfl
theorem lc_X6_isIn : Cond.code mX6_isIn.1 mX6_isIn.2.1 mX6_isIn.2.2.1 mX6_isIn.2.2.2 ∈ zTs := zTb7 37 (by decide +kernel) rfl
theorem ld_X6_isIn : mX6_isIn.1.cls ≠ "java/lang/invoke/MethodHandle" ∧ mX6_isIn.1.cls ≠ "java/lang/invoke/VarHandle" ∧ (parseMethodDescriptor mX6_isIn.1.desc).map (fun d => d.parameters.length) = some 3 ∧ mX6_isIn.2.2.1 ≤ 45 := ⟨by decide, by decide, by decide +kernel, by decide⟩
theorem le_X6_isIn : Cond.static mX6_isIn.1 ∈ zTs := zTb7 36 (by decide +kernel) rfl
theorem li_X6_isIn : Cond.initialized mX6_isIn.1.cls ∈ zTs := zTb1 7 (by decide +kernel) rfl
theorem lc_X6_byteAt : Cond.code mX6_byteAt.1 mX6_byteAt.2.1 mX6_byteAt.2.2.1 mX6_byteAt.2.2.2 ∈ zTs := zTb6 135 (by decide +kernel) rfl
theorem ld_X6_byteAt : mX6_byteAt.1.cls ≠ "java/lang/invoke/MethodHandle" ∧ mX6_byteAt.1.cls ≠ "java/lang/invoke/VarHandle" ∧ (parseMethodDescriptor mX6_byteAt.1.desc).map (fun d => d.parameters.length) = some 1 ∧ mX6_byteAt.2.2.1 ≤ 45 := ⟨by decide, by decide, by decide +kernel, by decide⟩
theorem le_X6_byteAt : Cond.instanceMethod mX6_byteAt.1 ∈ zTs ∧ Cond.selects mX6_byteAt.1.cls mX6_byteAt.1 mX6_byteAt.1 ∈ zTs := ⟨zTb6 134 (by decide +kernel) rfl, zTb0 50 (by decide +kernel)⟩
theorem li_X6_byteAt : Cond.initialized mX6_byteAt.1.cls ∈ zTs := zTb1 7 (by decide +kernel) rfl
theorem lc_X6_isLetter : Cond.code mX6_isLetter.1 mX6_isLetter.2.1 mX6_isLetter.2.2.1 mX6_isLetter.2.2.2 ∈ zTs := zTb6 138 (by decide +kernel) rfl
theorem ld_X6_isLetter : mX6_isLetter.1.cls ≠ "java/lang/invoke/MethodHandle" ∧ mX6_isLetter.1.cls ≠ "java/lang/invoke/VarHandle" ∧ (parseMethodDescriptor mX6_isLetter.1.desc).map (fun d => d.parameters.length) = some 1 ∧ mX6_isLetter.2.2.1 ≤ 45 := ⟨by decide, by decide, by decide +kernel, by decide⟩
theorem le_X6_isLetter : Cond.static mX6_isLetter.1 ∈ zTs := zTb6 137 (by decide +kernel) rfl
theorem li_X6_isLetter : Cond.initialized mX6_isLetter.1.cls ∈ zTs := zTb1 7 (by decide +kernel) rfl
theorem lc_X6_isDigit : Cond.code mX6_isDigit.1 mX6_isDigit.2.1 mX6_isDigit.2.2.1 mX6_isDigit.2.2.2 ∈ zTs := zTb6 141 (by decide +kernel) rfl
theorem ld_X6_isDigit : mX6_isDigit.1.cls ≠ "java/lang/invoke/MethodHandle" ∧ mX6_isDigit.1.cls ≠ "java/lang/invoke/VarHandle" ∧ (parseMethodDescriptor mX6_isDigit.1.desc).map (fun d => d.parameters.length) = some 1 ∧ mX6_isDigit.2.2.1 ≤ 45 := ⟨by decide, by decide, by decide +kernel, by decide⟩
theorem le_X6_isDigit : Cond.static mX6_isDigit.1 ∈ zTs := zTb6 140 (by decide +kernel) rfl
theorem li_X6_isDigit : Cond.initialized mX6_isDigit.1.cls ∈ zTs := zTb1 7 (by decide +kernel) rfl
theorem lc_X6_isMark : Cond.code mX6_isMark.1 mX6_isMark.2.1 mX6_isMark.2.2.1 mX6_isMark.2.2.2 ∈ zTs := zTb6 146 (by decide +kernel) rfl
theorem ld_X6_isMark : mX6_isMark.1.cls ≠ "java/lang/invoke/MethodHandle" ∧ mX6_isMark.1.cls ≠ "java/lang/invoke/VarHandle" ∧ (parseMethodDescriptor mX6_isMark.1.desc).map (fun d => d.parameters.length) = some 1 ∧ mX6_isMark.2.2.1 ≤ 45 := ⟨by decide, by decide, by decide +kernel, by decide⟩
theorem le_X6_isMark : Cond.static mX6_isMark.1 ∈ zTs := zTb6 145 (by decide +kernel) rfl
theorem li_X6_isMark : Cond.initialized mX6_isMark.1.cls ∈ zTs := zTb1 7 (by decide +kernel) rfl
theorem lc_X6_is : Cond.code mX6_is.1 mX6_is.2.1 mX6_is.2.2.1 mX6_is.2.2.2 ∈ zTs := zTb6 158 (by decide +kernel) rfl
theorem ld_X6_is : mX6_is.1.cls ≠ "java/lang/invoke/MethodHandle" ∧ mX6_is.1.cls ≠ "java/lang/invoke/VarHandle" ∧ (parseMethodDescriptor mX6_is.1.desc).map (fun d => d.parameters.length) = some 1 ∧ mX6_is.2.2.1 ≤ 45 := ⟨by decide, by decide, by decide +kernel, by decide⟩
theorem le_X6_is : Cond.instanceMethod mX6_is.1 ∈ zTs ∧ Cond.selects mX6_is.1.cls mX6_is.1 mX6_is.1 ∈ zTs := ⟨zTb6 157 (by decide +kernel) rfl, zTb0 53 (by decide +kernel)⟩
theorem li_X6_is : Cond.initialized mX6_is.1.cls ∈ zTs := zTb1 7 (by decide +kernel) rfl
theorem lc_X6_isMarked : Cond.code mX6_isMarked.1 mX6_isMarked.2.1 mX6_isMarked.2.2.1 mX6_isMarked.2.2.2 ∈ zTs := zTb6 183 (by decide +kernel) rfl
theorem ld_X6_isMarked : mX6_isMarked.1.cls ≠ "java/lang/invoke/MethodHandle" ∧ mX6_isMarked.1.cls ≠ "java/lang/invoke/VarHandle" ∧ (parseMethodDescriptor mX6_isMarked.1.desc).map (fun d => d.parameters.length) = some 1 ∧ mX6_isMarked.2.2.1 ≤ 45 := ⟨by decide, by decide, by decide +kernel, by decide⟩
theorem le_X6_isMarked : Cond.instanceMethod mX6_isMarked.1 ∈ zTs ∧ Cond.selects mX6_isMarked.1.cls mX6_isMarked.1 mX6_isMarked.1 ∈ zTs := ⟨zTb6 182 (by decide +kernel) rfl, zTb0 58 (by decide +kernel)⟩
theorem li_X6_isMarked : Cond.initialized mX6_isMarked.1.cls ∈ zTs := zTb1 7 (by decide +kernel) rfl
theorem lc_X6_wrong : Cond.code mX6_wrong.1 mX6_wrong.2.1 mX6_wrong.2.2.1 mX6_wrong.2.2.2 ∈ zTs := zTb6 167 (by decide +kernel) rfl
theorem ld_X6_wrong : mX6_wrong.1.cls ≠ "java/lang/invoke/MethodHandle" ∧ mX6_wrong.1.cls ≠ "java/lang/invoke/VarHandle" ∧ (parseMethodDescriptor mX6_wrong.1.desc).map (fun d => d.parameters.length) = some 1 ∧ mX6_wrong.2.2.1 ≤ 45 := ⟨by decide, by decide, by decide +kernel, by decide⟩
theorem le_X6_wrong : Cond.instanceMethod mX6_wrong.1 ∈ zTs ∧ Cond.selects mX6_wrong.1.cls mX6_wrong.1 mX6_wrong.1 ∈ zTs := ⟨zTb6 166 (by decide +kernel) rfl, zTb0 54 (by decide +kernel)⟩
theorem li_X6_wrong : Cond.initialized mX6_wrong.1.cls ∈ zTs := zTb1 7 (by decide +kernel) rfl
theorem lc_X6_stepOn : Cond.code mX6_stepOn.1 mX6_stepOn.2.1 mX6_stepOn.2.2.1 mX6_stepOn.2.2.2 ∈ zTs := zTb6 131 (by decide +kernel) rfl
theorem ld_X6_stepOn : mX6_stepOn.1.cls ≠ "java/lang/invoke/MethodHandle" ∧ mX6_stepOn.1.cls ≠ "java/lang/invoke/VarHandle" ∧ (parseMethodDescriptor mX6_stepOn.1.desc).map (fun d => d.parameters.length) = some 0 ∧ mX6_stepOn.2.2.1 ≤ 45 := ⟨by decide, by decide, by decide +kernel, by decide⟩
theorem le_X6_stepOn : Cond.instanceMethod mX6_stepOn.1 ∈ zTs ∧ Cond.selects mX6_stepOn.1.cls mX6_stepOn.1 mX6_stepOn.1 ∈ zTs := ⟨zTb6 130 (by decide +kernel) rfl, zTb0 49 (by decide +kernel)⟩
theorem li_X6_stepOn : Cond.initialized mX6_stepOn.1.cls ∈ zTs := zTb1 7 (by decide +kernel) rfl
theorem lc_X6_readNumber : Cond.code mX6_readNumber.1 mX6_readNumber.2.1 mX6_readNumber.2.2.1 mX6_readNumber.2.2.2 ∈ zTs := zTb6 175 (by decide +kernel) rfl
theorem ld_X6_readNumber : mX6_readNumber.1.cls ≠ "java/lang/invoke/MethodHandle" ∧ mX6_readNumber.1.cls ≠ "java/lang/invoke/VarHandle" ∧ (parseMethodDescriptor mX6_readNumber.1.desc).map (fun d => d.parameters.length) = some 2 ∧ mX6_readNumber.2.2.1 ≤ 45 := ⟨by decide, by decide, by decide +kernel, by decide⟩
theorem le_X6_readNumber : Cond.instanceMethod mX6_readNumber.1 ∈ zTs ∧ Cond.selects mX6_readNumber.1.cls mX6_readNumber.1 mX6_readNumber.1 ∈ zTs := ⟨zTb6 174 (by decide +kernel) rfl, zTb0 56 (by decide +kernel)⟩
theorem li_X6_readNumber : Cond.initialized mX6_readNumber.1.cls ∈ zTs := zTb1 7 (by decide +kernel) rfl
theorem lc_X6_lay : Cond.code mX6_lay.1 mX6_lay.2.1 mX6_lay.2.2.1 mX6_lay.2.2.2 ∈ zTs := zTb6 208 (by decide +kernel) rfl
theorem ld_X6_lay : mX6_lay.1.cls ≠ "java/lang/invoke/MethodHandle" ∧ mX6_lay.1.cls ≠ "java/lang/invoke/VarHandle" ∧ (parseMethodDescriptor mX6_lay.1.desc).map (fun d => d.parameters.length) = some 1 ∧ mX6_lay.2.2.1 ≤ 45 := ⟨by decide, by decide, by decide +kernel, by decide⟩
theorem le_X6_lay : Cond.instanceMethod mX6_lay.1 ∈ zTs ∧ Cond.selects mX6_lay.1.cls mX6_lay.1 mX6_lay.1 ∈ zTs := ⟨zTb6 207 (by decide +kernel) rfl, zTb0 64 (by decide +kernel)⟩
theorem li_X6_lay : Cond.initialized mX6_lay.1.cls ∈ zTs := zTb1 7 (by decide +kernel) rfl
theorem lc_X6_which : Cond.code mX6_which.1 mX6_which.2.1 mX6_which.2.2.1 mX6_which.2.2.2 ∈ zTs := zTb6 154 (by decide +kernel) rfl
theorem ld_X6_which : mX6_which.1.cls ≠ "java/lang/invoke/MethodHandle" ∧ mX6_which.1.cls ≠ "java/lang/invoke/VarHandle" ∧ (parseMethodDescriptor mX6_which.1.desc).map (fun d => d.parameters.length) = some 1 ∧ mX6_which.2.2.1 ≤ 45 := ⟨by decide, by decide, by decide +kernel, by decide⟩
theorem le_X6_which : Cond.instanceMethod mX6_which.1 ∈ zTs ∧ Cond.selects mX6_which.1.cls mX6_which.1 mX6_which.1 ∈ zTs := ⟨zTb6 153 (by decide +kernel) rfl, zTb0 52 (by decide +kernel)⟩
theorem li_X6_which : Cond.initialized mX6_which.1.cls ∈ zTs := zTb1 7 (by decide +kernel) rfl
theorem lc_X6_mark : Cond.code mX6_mark.1 mX6_mark.2.1 mX6_mark.2.2.1 mX6_mark.2.2.2 ∈ zTs := zTb6 212 (by decide +kernel) rfl
theorem ld_X6_mark : mX6_mark.1.cls ≠ "java/lang/invoke/MethodHandle" ∧ mX6_mark.1.cls ≠ "java/lang/invoke/VarHandle" ∧ (parseMethodDescriptor mX6_mark.1.desc).map (fun d => d.parameters.length) = some 1 ∧ mX6_mark.2.2.1 ≤ 45 := ⟨by decide, by decide, by decide +kernel, by decide⟩
theorem le_X6_mark : Cond.instanceMethod mX6_mark.1 ∈ zTs ∧ Cond.selects mX6_mark.1.cls mX6_mark.1 mX6_mark.1 ∈ zTs := ⟨zTb6 211 (by decide +kernel) rfl, zTb0 65 (by decide +kernel)⟩
theorem li_X6_mark : Cond.initialized mX6_mark.1.cls ∈ zTs := zTb1 7 (by decide +kernel) rfl
theorem lc_X6_readExpression : Cond.code mX6_readExpression.1 mX6_readExpression.2.1 mX6_readExpression.2.2.1 mX6_readExpression.2.2.2 ∈ zTs := zTb6 179 (by decide +kernel) rfl
theorem ld_X6_readExpression : mX6_readExpression.1.cls ≠ "java/lang/invoke/MethodHandle" ∧ mX6_readExpression.1.cls ≠ "java/lang/invoke/VarHandle" ∧ (parseMethodDescriptor mX6_readExpression.1.desc).map (fun d => d.parameters.length) = some 1 ∧ mX6_readExpression.2.2.1 ≤ 45 := ⟨by decide, by decide, by decide +kernel, by decide⟩
theorem le_X6_readExpression : Cond.instanceMethod mX6_readExpression.1 ∈ zTs ∧ Cond.selects mX6_readExpression.1.cls mX6_readExpression.1 mX6_readExpression.1 ∈ zTs := ⟨zTb6 178 (by decide +kernel) rfl, zTb0 57 (by decide +kernel)⟩
theorem li_X6_readExpression : Cond.initialized mX6_readExpression.1.cls ∈ zTs := zTb1 7 (by decide +kernel) rfl
theorem lc_X6_readPart : Cond.code mX6_readPart.1 mX6_readPart.2.1 mX6_readPart.2.2.1 mX6_readPart.2.2.2 ∈ zTs := zTb6 204 (by decide +kernel) rfl
theorem ld_X6_readPart : mX6_readPart.1.cls ≠ "java/lang/invoke/MethodHandle" ∧ mX6_readPart.1.cls ≠ "java/lang/invoke/VarHandle" ∧ (parseMethodDescriptor mX6_readPart.1.desc).map (fun d => d.parameters.length) = some 1 ∧ mX6_readPart.2.2.1 ≤ 45 := ⟨by decide, by decide, by decide +kernel, by decide⟩
theorem le_X6_readPart : Cond.instanceMethod mX6_readPart.1 ∈ zTs ∧ Cond.selects mX6_readPart.1.cls mX6_readPart.1 mX6_readPart.1 ∈ zTs := ⟨zTb6 203 (by decide +kernel) rfl, zTb0 63 (by decide +kernel)⟩
theorem li_X6_readPart : Cond.initialized mX6_readPart.1.cls ∈ zTs := zTb1 7 (by decide +kernel) rfl
theorem lc_X6_readProduct : Cond.code mX6_readProduct.1 mX6_readProduct.2.1 mX6_readProduct.2.2.1 mX6_readProduct.2.2.2 ∈ zTs := zTb6 200 (by decide +kernel) rfl
theorem ld_X6_readProduct : mX6_readProduct.1.cls ≠ "java/lang/invoke/MethodHandle" ∧ mX6_readProduct.1.cls ≠ "java/lang/invoke/VarHandle" ∧ (parseMethodDescriptor mX6_readProduct.1.desc).map (fun d => d.parameters.length) = some 1 ∧ mX6_readProduct.2.2.1 ≤ 45 := ⟨by decide, by decide, by decide +kernel, by decide⟩
theorem le_X6_readProduct : Cond.instanceMethod mX6_readProduct.1 ∈ zTs ∧ Cond.selects mX6_readProduct.1.cls mX6_readProduct.1 mX6_readProduct.1 ∈ zTs := ⟨zTb6 199 (by decide +kernel) rfl, zTb0 62 (by decide +kernel)⟩
theorem li_X6_readProduct : Cond.initialized mX6_readProduct.1.cls ∈ zTs := zTb1 7 (by decide +kernel) rfl
theorem lc_X6_readSum : Cond.code mX6_readSum.1 mX6_readSum.2.1 mX6_readSum.2.2.1 mX6_readSum.2.2.2 ∈ zTs := zTb6 196 (by decide +kernel) rfl
theorem ld_X6_readSum : mX6_readSum.1.cls ≠ "java/lang/invoke/MethodHandle" ∧ mX6_readSum.1.cls ≠ "java/lang/invoke/VarHandle" ∧ (parseMethodDescriptor mX6_readSum.1.desc).map (fun d => d.parameters.length) = some 1 ∧ mX6_readSum.2.2.1 ≤ 45 := ⟨by decide, by decide, by decide +kernel, by decide⟩
theorem le_X6_readSum : Cond.instanceMethod mX6_readSum.1 ∈ zTs ∧ Cond.selects mX6_readSum.1.cls mX6_readSum.1 mX6_readSum.1 ∈ zTs := ⟨zTb6 195 (by decide +kernel) rfl, zTb0 61 (by decide +kernel)⟩
theorem li_X6_readSum : Cond.initialized mX6_readSum.1.cls ∈ zTs := zTb1 7 (by decide +kernel) rfl
theorem lc_X6_readNot : Cond.code mX6_readNot.1 mX6_readNot.2.1 mX6_readNot.2.2.1 mX6_readNot.2.2.2 ∈ zTs := zTb6 191 (by decide +kernel) rfl
theorem ld_X6_readNot : mX6_readNot.1.cls ≠ "java/lang/invoke/MethodHandle" ∧ mX6_readNot.1.cls ≠ "java/lang/invoke/VarHandle" ∧ (parseMethodDescriptor mX6_readNot.1.desc).map (fun d => d.parameters.length) = some 1 ∧ mX6_readNot.2.2.1 ≤ 45 := ⟨by decide, by decide, by decide +kernel, by decide⟩
theorem le_X6_readNot : Cond.instanceMethod mX6_readNot.1 ∈ zTs ∧ Cond.selects mX6_readNot.1.cls mX6_readNot.1 mX6_readNot.1 ∈ zTs := ⟨zTb6 190 (by decide +kernel) rfl, zTb0 60 (by decide +kernel)⟩
theorem li_X6_readNot : Cond.initialized mX6_readNot.1.cls ∈ zTs := zTb1 7 (by decide +kernel) rfl
theorem lc_X6_readAnd : Cond.code mX6_readAnd.1 mX6_readAnd.2.1 mX6_readAnd.2.2.1 mX6_readAnd.2.2.2 ∈ zTs := zTb6 187 (by decide +kernel) rfl
theorem ld_X6_readAnd : mX6_readAnd.1.cls ≠ "java/lang/invoke/MethodHandle" ∧ mX6_readAnd.1.cls ≠ "java/lang/invoke/VarHandle" ∧ (parseMethodDescriptor mX6_readAnd.1.desc).map (fun d => d.parameters.length) = some 1 ∧ mX6_readAnd.2.2.1 ≤ 45 := ⟨by decide, by decide, by decide +kernel, by decide⟩
theorem le_X6_readAnd : Cond.instanceMethod mX6_readAnd.1 ∈ zTs ∧ Cond.selects mX6_readAnd.1.cls mX6_readAnd.1 mX6_readAnd.1 ∈ zTs := ⟨zTb6 186 (by decide +kernel) rfl, zTb0 59 (by decide +kernel)⟩
theorem li_X6_readAnd : Cond.initialized mX6_readAnd.1.cls ∈ zTs := zTb1 7 (by decide +kernel) rfl
theorem lc_X6_another : Cond.code mX6_another.1 mX6_another.2.1 mX6_another.2.2.1 mX6_another.2.2.2 ∈ zTs := zTb6 222 (by decide +kernel) rfl
theorem ld_X6_another : mX6_another.1.cls ≠ "java/lang/invoke/MethodHandle" ∧ mX6_another.1.cls ≠ "java/lang/invoke/VarHandle" ∧ (parseMethodDescriptor mX6_another.1.desc).map (fun d => d.parameters.length) = some 2 ∧ mX6_another.2.2.1 ≤ 45 := ⟨by decide, by decide, by decide +kernel, by decide⟩
theorem le_X6_another : Cond.instanceMethod mX6_another.1 ∈ zTs ∧ Cond.selects mX6_another.1.cls mX6_another.1 mX6_another.1 ∈ zTs := ⟨zTb6 221 (by decide +kernel) rfl, zTb0 67 (by decide +kernel)⟩
theorem li_X6_another : Cond.initialized mX6_another.1.cls ∈ zTs := zTb1 7 (by decide +kernel) rfl
theorem lc_X6_sayOnce : Cond.code mX6_sayOnce.1 mX6_sayOnce.2.1 mX6_sayOnce.2.2.1 mX6_sayOnce.2.2.2 ∈ zTs := zTb6 171 (by decide +kernel) rfl
theorem ld_X6_sayOnce : mX6_sayOnce.1.cls ≠ "java/lang/invoke/MethodHandle" ∧ mX6_sayOnce.1.cls ≠ "java/lang/invoke/VarHandle" ∧ (parseMethodDescriptor mX6_sayOnce.1.desc).map (fun d => d.parameters.length) = some 1 ∧ mX6_sayOnce.2.2.1 ≤ 45 := ⟨by decide, by decide, by decide +kernel, by decide⟩
theorem le_X6_sayOnce : Cond.instanceMethod mX6_sayOnce.1 ∈ zTs ∧ Cond.selects mX6_sayOnce.1.cls mX6_sayOnce.1 mX6_sayOnce.1 ∈ zTs := ⟨zTb6 170 (by decide +kernel) rfl, zTb0 55 (by decide +kernel)⟩
theorem li_X6_sayOnce : Cond.initialized mX6_sayOnce.1.cls ∈ zTs := zTb1 7 (by decide +kernel) rfl
theorem lc_X6_sayJudge : Cond.code mX6_sayJudge.1 mX6_sayJudge.2.1 mX6_sayJudge.2.2.1 mX6_sayJudge.2.2.2 ∈ zTs := zTb6 218 (by decide +kernel) rfl
theorem ld_X6_sayJudge : mX6_sayJudge.1.cls ≠ "java/lang/invoke/MethodHandle" ∧ mX6_sayJudge.1.cls ≠ "java/lang/invoke/VarHandle" ∧ (parseMethodDescriptor mX6_sayJudge.1.desc).map (fun d => d.parameters.length) = some 1 ∧ mX6_sayJudge.2.2.1 ≤ 45 := ⟨by decide, by decide, by decide +kernel, by decide⟩
theorem le_X6_sayJudge : Cond.instanceMethod mX6_sayJudge.1 ∈ zTs ∧ Cond.selects mX6_sayJudge.1.cls mX6_sayJudge.1 mX6_sayJudge.1 ∈ zTs := ⟨zTb6 217 (by decide +kernel) rfl, zTb0 66 (by decide +kernel)⟩
theorem li_X6_sayJudge : Cond.initialized mX6_sayJudge.1.cls ∈ zTs := zTb1 7 (by decide +kernel) rfl
theorem lc_X6_sayLeaf : Cond.code mX6_sayLeaf.1 mX6_sayLeaf.2.1 mX6_sayLeaf.2.2.1 mX6_sayLeaf.2.2.2 ∈ zTs := zTb6 227 (by decide +kernel) rfl
theorem ld_X6_sayLeaf : mX6_sayLeaf.1.cls ≠ "java/lang/invoke/MethodHandle" ∧ mX6_sayLeaf.1.cls ≠ "java/lang/invoke/VarHandle" ∧ (parseMethodDescriptor mX6_sayLeaf.1.desc).map (fun d => d.parameters.length) = some 0 ∧ mX6_sayLeaf.2.2.1 ≤ 45 := ⟨by decide, by decide, by decide +kernel, by decide⟩
theorem le_X6_sayLeaf : Cond.instanceMethod mX6_sayLeaf.1 ∈ zTs ∧ Cond.selects mX6_sayLeaf.1.cls mX6_sayLeaf.1 mX6_sayLeaf.1 ∈ zTs := ⟨zTb6 226 (by decide +kernel) rfl, zTb0 68 (by decide +kernel)⟩
theorem li_X6_sayLeaf : Cond.initialized mX6_sayLeaf.1.cls ∈ zTs := zTb1 7 (by decide +kernel) rfl
theorem lc_X6_fail : Cond.code mX6_fail.1 mX6_fail.2.1 mX6_fail.2.2.1 mX6_fail.2.2.2 ∈ zTs := zTb6 127 (by decide +kernel) rfl
theorem ld_X6_fail : mX6_fail.1.cls ≠ "java/lang/invoke/MethodHandle" ∧ mX6_fail.1.cls ≠ "java/lang/invoke/VarHandle" ∧ (parseMethodDescriptor mX6_fail.1.desc).map (fun d => d.parameters.length) = some 1 ∧ mX6_fail.2.2.1 ≤ 45 := ⟨by decide, by decide, by decide +kernel, by decide⟩
theorem le_X6_fail : Cond.instanceMethod mX6_fail.1 ∈ zTs ∧ Cond.selects mX6_fail.1.cls mX6_fail.1 mX6_fail.1 ∈ zTs := ⟨zTb6 126 (by decide +kernel) rfl, zTb0 48 (by decide +kernel)⟩
theorem li_X6_fail : Cond.initialized mX6_fail.1.cls ∈ zTs := zTb1 7 (by decide +kernel) rfl
theorem lc_X6_readLine : Cond.code mX6_readLine.1 mX6_readLine.2.1 mX6_readLine.2.2.1 mX6_readLine.2.2.2 ∈ zTs := zTb6 150 (by decide +kernel) rfl
theorem ld_X6_readLine : mX6_readLine.1.cls ≠ "java/lang/invoke/MethodHandle" ∧ mX6_readLine.1.cls ≠ "java/lang/invoke/VarHandle" ∧ (parseMethodDescriptor mX6_readLine.1.desc).map (fun d => d.parameters.length) = some 1 ∧ mX6_readLine.2.2.1 ≤ 45 := ⟨by decide, by decide, by decide +kernel, by decide⟩
theorem le_X6_readLine : Cond.instanceMethod mX6_readLine.1 ∈ zTs ∧ Cond.selects mX6_readLine.1.cls mX6_readLine.1 mX6_readLine.1 ∈ zTs := ⟨zTb6 149 (by decide +kernel) rfl, zTb0 51 (by decide +kernel)⟩
theorem li_X6_readLine : Cond.initialized mX6_readLine.1.cls ∈ zTs := zTb1 7 (by decide +kernel) rfl
theorem lc_X6_takeOver : Cond.code mX6_takeOver.1 mX6_takeOver.2.1 mX6_takeOver.2.2.1 mX6_takeOver.2.2.2 ∈ zTs := zTb6 231 (by decide +kernel) rfl
theorem ld_X6_takeOver : mX6_takeOver.1.cls ≠ "java/lang/invoke/MethodHandle" ∧ mX6_takeOver.1.cls ≠ "java/lang/invoke/VarHandle" ∧ (parseMethodDescriptor mX6_takeOver.1.desc).map (fun d => d.parameters.length) = some 0 ∧ mX6_takeOver.2.2.1 ≤ 45 := ⟨by decide, by decide, by decide +kernel, by decide⟩
theorem le_X6_takeOver : Cond.instanceMethod mX6_takeOver.1 ∈ zTs ∧ Cond.selects mX6_takeOver.1.cls mX6_takeOver.1 mX6_takeOver.1 ∈ zTs := ⟨zTb6 230 (by decide +kernel) rfl, zTb0 69 (by decide +kernel)⟩
theorem li_X6_takeOver : Cond.initialized mX6_takeOver.1.cls ∈ zTs := zTb1 7 (by decide +kernel) rfl
theorem lc_X6_takeHalf : Cond.code mX6_takeHalf.1 mX6_takeHalf.2.1 mX6_takeHalf.2.2.1 mX6_takeHalf.2.2.2 ∈ zTs := zTb6 234 (by decide +kernel) rfl
theorem ld_X6_takeHalf : mX6_takeHalf.1.cls ≠ "java/lang/invoke/MethodHandle" ∧ mX6_takeHalf.1.cls ≠ "java/lang/invoke/VarHandle" ∧ (parseMethodDescriptor mX6_takeHalf.1.desc).map (fun d => d.parameters.length) = some 1 ∧ mX6_takeHalf.2.2.1 ≤ 45 := ⟨by decide, by decide, by decide +kernel, by decide⟩
theorem le_X6_takeHalf : Cond.static mX6_takeHalf.1 ∈ zTs := zTb6 233 (by decide +kernel) rfl
theorem li_X6_takeHalf : Cond.initialized mX6_takeHalf.1.cls ∈ zTs := zTb1 7 (by decide +kernel) rfl
theorem lc_X6_reckon : Cond.code mX6_reckon.1 mX6_reckon.2.1 mX6_reckon.2.2.1 mX6_reckon.2.2.2 ∈ zTs := zTb7 109 (by decide +kernel) rfl
theorem ld_X6_reckon : mX6_reckon.1.cls ≠ "java/lang/invoke/MethodHandle" ∧ mX6_reckon.1.cls ≠ "java/lang/invoke/VarHandle" ∧ (parseMethodDescriptor mX6_reckon.1.desc).map (fun d => d.parameters.length) = some 3 ∧ mX6_reckon.2.2.1 ≤ 45 := ⟨by decide, by decide, by decide +kernel, by decide⟩
theorem le_X6_reckon : Cond.static mX6_reckon.1 ∈ zTs := zTb7 108 (by decide +kernel) rfl
theorem li_X6_reckon : Cond.initialized mX6_reckon.1.cls ∈ zTs := zTb1 7 (by decide +kernel) rfl
theorem lc_X6_heapAt : Cond.code mX6_heapAt.1 mX6_heapAt.2.1 mX6_heapAt.2.2.1 mX6_heapAt.2.2.2 ∈ zTs := zTb7 14 (by decide +kernel) rfl
theorem ld_X6_heapAt : mX6_heapAt.1.cls ≠ "java/lang/invoke/MethodHandle" ∧ mX6_heapAt.1.cls ≠ "java/lang/invoke/VarHandle" ∧ (parseMethodDescriptor mX6_heapAt.1.desc).map (fun d => d.parameters.length) = some 1 ∧ mX6_heapAt.2.2.1 ≤ 45 := ⟨by decide, by decide, by decide +kernel, by decide⟩
theorem le_X6_heapAt : Cond.instanceMethod mX6_heapAt.1 ∈ zTs ∧ Cond.selects mX6_heapAt.1.cls mX6_heapAt.1 mX6_heapAt.1 ∈ zTs := ⟨zTb7 13 (by decide +kernel) rfl, zTb0 72 (by decide +kernel)⟩
theorem li_X6_heapAt : Cond.initialized mX6_heapAt.1.cls ∈ zTs := zTb1 7 (by decide +kernel) rfl
theorem lc_X6_bitsOf : Cond.code mX6_bitsOf.1 mX6_bitsOf.2.1 mX6_bitsOf.2.2.1 mX6_bitsOf.2.2.2 ∈ zTs := zTb7 17 (by decide +kernel) rfl
theorem ld_X6_bitsOf : mX6_bitsOf.1.cls ≠ "java/lang/invoke/MethodHandle" ∧ mX6_bitsOf.1.cls ≠ "java/lang/invoke/VarHandle" ∧ (parseMethodDescriptor mX6_bitsOf.1.desc).map (fun d => d.parameters.length) = some 1 ∧ mX6_bitsOf.2.2.1 ≤ 45 := ⟨by decide, by decide, by decide +kernel, by decide⟩
theorem le_X6_bitsOf : Cond.static mX6_bitsOf.1 ∈ zTs := zTb7 16 (by decide +kernel) rfl
theorem li_X6_bitsOf : Cond.initialized mX6_bitsOf.1.cls ∈ zTs := zTb1 7 (by decide +kernel) rfl
theorem lc_X6_fullest : Cond.code mX6_fullest.1 mX6_fullest.2.1 mX6_fullest.2.2.1 mX6_fullest.2.2.2 ∈ zTs := zTb7 10 (by decide +kernel) rfl
theorem ld_X6_fullest : mX6_fullest.1.cls ≠ "java/lang/invoke/MethodHandle" ∧ mX6_fullest.1.cls ≠ "java/lang/invoke/VarHandle" ∧ (parseMethodDescriptor mX6_fullest.1.desc).map (fun d => d.parameters.length) = some 0 ∧ mX6_fullest.2.2.1 ≤ 45 := ⟨by decide, by decide, by decide +kernel, by decide⟩
theorem le_X6_fullest : Cond.instanceMethod mX6_fullest.1 ∈ zTs ∧ Cond.selects mX6_fullest.1.cls mX6_fullest.1 mX6_fullest.1 ∈ zTs := ⟨zTb7 9 (by decide +kernel) rfl, zTb0 71 (by decide +kernel)⟩
theorem li_X6_fullest : Cond.initialized mX6_fullest.1.cls ∈ zTs := zTb1 7 (by decide +kernel) rfl
theorem lc_X6_mostNow : Cond.code mX6_mostNow.1 mX6_mostNow.2.1 mX6_mostNow.2.2.1 mX6_mostNow.2.2.2 ∈ zTs := zTb7 6 (by decide +kernel) rfl
theorem ld_X6_mostNow : mX6_mostNow.1.cls ≠ "java/lang/invoke/MethodHandle" ∧ mX6_mostNow.1.cls ≠ "java/lang/invoke/VarHandle" ∧ (parseMethodDescriptor mX6_mostNow.1.desc).map (fun d => d.parameters.length) = some 0 ∧ mX6_mostNow.2.2.1 ≤ 45 := ⟨by decide, by decide, by decide +kernel, by decide⟩
theorem le_X6_mostNow : Cond.instanceMethod mX6_mostNow.1 ∈ zTs ∧ Cond.selects mX6_mostNow.1.cls mX6_mostNow.1 mX6_mostNow.1 ∈ zTs := ⟨zTb7 5 (by decide +kernel) rfl, zTb0 70 (by decide +kernel)⟩
theorem li_X6_mostNow : Cond.initialized mX6_mostNow.1.cls ∈ zTs := zTb1 7 (by decide +kernel) rfl
theorem lc_X6_oddNow : Cond.code mX6_oddNow.1 mX6_oddNow.2.1 mX6_oddNow.2.2.1 mX6_oddNow.2.2.2 ∈ zTs := zTb7 21 (by decide +kernel) rfl
theorem ld_X6_oddNow : mX6_oddNow.1.cls ≠ "java/lang/invoke/MethodHandle" ∧ mX6_oddNow.1.cls ≠ "java/lang/invoke/VarHandle" ∧ (parseMethodDescriptor mX6_oddNow.1.desc).map (fun d => d.parameters.length) = some 0 ∧ mX6_oddNow.2.2.1 ≤ 45 := ⟨by decide, by decide, by decide +kernel, by decide⟩
theorem le_X6_oddNow : Cond.instanceMethod mX6_oddNow.1 ∈ zTs ∧ Cond.selects mX6_oddNow.1.cls mX6_oddNow.1 mX6_oddNow.1 ∈ zTs := ⟨zTb7 20 (by decide +kernel) rfl, zTb0 73 (by decide +kernel)⟩
theorem li_X6_oddNow : Cond.initialized mX6_oddNow.1.cls ∈ zTs := zTb1 7 (by decide +kernel) rfl
theorem lc_X6_ask : Cond.code mX6_ask.1 mX6_ask.2.1 mX6_ask.2.2.1 mX6_ask.2.2.2 ∈ zTs := zTb7 102 (by decide +kernel) rfl
theorem ld_X6_ask : mX6_ask.1.cls ≠ "java/lang/invoke/MethodHandle" ∧ mX6_ask.1.cls ≠ "java/lang/invoke/VarHandle" ∧ (parseMethodDescriptor mX6_ask.1.desc).map (fun d => d.parameters.length) = some 0 ∧ mX6_ask.2.2.1 ≤ 45 := ⟨by decide, by decide, by decide +kernel, by decide⟩
theorem le_X6_ask : Cond.instanceMethod mX6_ask.1 ∈ zTs ∧ Cond.selects mX6_ask.1.cls mX6_ask.1 mX6_ask.1 ∈ zTs := ⟨zTb7 101 (by decide +kernel) rfl, zTb0 85 (by decide +kernel)⟩
theorem li_X6_ask : Cond.initialized mX6_ask.1.cls ∈ zTs := zTb1 7 (by decide +kernel) rfl
theorem lc_X6_valueNow : Cond.code mX6_valueNow.1 mX6_valueNow.2.1 mX6_valueNow.2.2.1 mX6_valueNow.2.2.2 ∈ zTs := zTb7 106 (by decide +kernel) rfl
theorem ld_X6_valueNow : mX6_valueNow.1.cls ≠ "java/lang/invoke/MethodHandle" ∧ mX6_valueNow.1.cls ≠ "java/lang/invoke/VarHandle" ∧ (parseMethodDescriptor mX6_valueNow.1.desc).map (fun d => d.parameters.length) = some 2 ∧ mX6_valueNow.2.2.1 ≤ 45 := ⟨by decide, by decide, by decide +kernel, by decide⟩
theorem le_X6_valueNow : Cond.instanceMethod mX6_valueNow.1 ∈ zTs ∧ Cond.selects mX6_valueNow.1.cls mX6_valueNow.1 mX6_valueNow.1 ∈ zTs := ⟨zTb7 105 (by decide +kernel) rfl, zTb0 86 (by decide +kernel)⟩
theorem li_X6_valueNow : Cond.initialized mX6_valueNow.1.cls ∈ zTs := zTb1 7 (by decide +kernel) rfl
theorem lc_X6_ringOf : Cond.code mX6_ringOf.1 mX6_ringOf.2.1 mX6_ringOf.2.2.1 mX6_ringOf.2.2.2 ∈ zTs := zTb7 116 (by decide +kernel) rfl
theorem ld_X6_ringOf : mX6_ringOf.1.cls ≠ "java/lang/invoke/MethodHandle" ∧ mX6_ringOf.1.cls ≠ "java/lang/invoke/VarHandle" ∧ (parseMethodDescriptor mX6_ringOf.1.desc).map (fun d => d.parameters.length) = some 2 ∧ mX6_ringOf.2.2.1 ≤ 45 := ⟨by decide, by decide, by decide +kernel, by decide⟩
theorem le_X6_ringOf : Cond.static mX6_ringOf.1 ∈ zTs := zTb7 115 (by decide +kernel) rfl
theorem li_X6_ringOf : Cond.initialized mX6_ringOf.1.cls ∈ zTs := zTb1 7 (by decide +kernel) rfl
theorem lc_X6_drink : Cond.code mX6_drink.1 mX6_drink.2.1 mX6_drink.2.2.1 mX6_drink.2.2.2 ∈ zTs := zTb7 98 (by decide +kernel) rfl
theorem ld_X6_drink : mX6_drink.1.cls ≠ "java/lang/invoke/MethodHandle" ∧ mX6_drink.1.cls ≠ "java/lang/invoke/VarHandle" ∧ (parseMethodDescriptor mX6_drink.1.desc).map (fun d => d.parameters.length) = some 1 ∧ mX6_drink.2.2.1 ≤ 45 := ⟨by decide, by decide, by decide +kernel, by decide⟩
theorem le_X6_drink : Cond.instanceMethod mX6_drink.1 ∈ zTs ∧ Cond.selects mX6_drink.1.cls mX6_drink.1 mX6_drink.1 ∈ zTs := ⟨zTb7 97 (by decide +kernel) rfl, zTb0 84 (by decide +kernel)⟩
theorem li_X6_drink : Cond.initialized mX6_drink.1.cls ∈ zTs := zTb1 7 (by decide +kernel) rfl
theorem lc_X6_stirred : Cond.code mX6_stirred.1 mX6_stirred.2.1 mX6_stirred.2.2.1 mX6_stirred.2.2.2 ∈ zTs := zTb7 113 (by decide +kernel) rfl
theorem ld_X6_stirred : mX6_stirred.1.cls ≠ "java/lang/invoke/MethodHandle" ∧ mX6_stirred.1.cls ≠ "java/lang/invoke/VarHandle" ∧ (parseMethodDescriptor mX6_stirred.1.desc).map (fun d => d.parameters.length) = some 3 ∧ mX6_stirred.2.2.1 ≤ 45 := ⟨by decide, by decide, by decide +kernel, by decide⟩
theorem le_X6_stirred : Cond.instanceMethod mX6_stirred.1 ∈ zTs ∧ Cond.selects mX6_stirred.1.cls mX6_stirred.1 mX6_stirred.1 ∈ zTs := ⟨zTb7 112 (by decide +kernel) rfl, zTb0 87 (by decide +kernel)⟩
theorem li_X6_stirred : Cond.initialized mX6_stirred.1.cls ∈ zTs := zTb1 7 (by decide +kernel) rfl
theorem lc_X6_blow : Cond.code mX6_blow.1 mX6_blow.2.1 mX6_blow.2.2.1 mX6_blow.2.2.2 ∈ zTs := zTb7 120 (by decide +kernel) rfl
theorem ld_X6_blow : mX6_blow.1.cls ≠ "java/lang/invoke/MethodHandle" ∧ mX6_blow.1.cls ≠ "java/lang/invoke/VarHandle" ∧ (parseMethodDescriptor mX6_blow.1.desc).map (fun d => d.parameters.length) = some 0 ∧ mX6_blow.2.2.1 ≤ 45 := ⟨by decide, by decide, by decide +kernel, by decide⟩
theorem le_X6_blow : Cond.instanceMethod mX6_blow.1 ∈ zTs ∧ Cond.selects mX6_blow.1.cls mX6_blow.1 mX6_blow.1 ∈ zTs := ⟨zTb7 119 (by decide +kernel) rfl, zTb0 88 (by decide +kernel)⟩
theorem li_X6_blow : Cond.initialized mX6_blow.1.cls ∈ zTs := zTb1 7 (by decide +kernel) rfl
theorem lc_X6_aCase : Cond.code mX6_aCase.1 mX6_aCase.2.1 mX6_aCase.2.2.1 mX6_aCase.2.2.2 ∈ zTs := zTb7 94 (by decide +kernel) rfl
theorem ld_X6_aCase : mX6_aCase.1.cls ≠ "java/lang/invoke/MethodHandle" ∧ mX6_aCase.1.cls ≠ "java/lang/invoke/VarHandle" ∧ (parseMethodDescriptor mX6_aCase.1.desc).map (fun d => d.parameters.length) = some 0 ∧ mX6_aCase.2.2.1 ≤ 45 := ⟨by decide, by decide, by decide +kernel, by decide⟩
theorem le_X6_aCase : Cond.instanceMethod mX6_aCase.1 ∈ zTs ∧ Cond.selects mX6_aCase.1.cls mX6_aCase.1 mX6_aCase.1 ∈ zTs := ⟨zTb7 93 (by decide +kernel) rfl, zTb0 83 (by decide +kernel)⟩
theorem li_X6_aCase : Cond.initialized mX6_aCase.1.cls ∈ zTs := zTb1 7 (by decide +kernel) rfl
theorem lc_X6_pack : Cond.code mX6_pack.1 mX6_pack.2.1 mX6_pack.2.2.1 mX6_pack.2.2.2 ∈ zTs := zTb7 86 (by decide +kernel) rfl
theorem ld_X6_pack : mX6_pack.1.cls ≠ "java/lang/invoke/MethodHandle" ∧ mX6_pack.1.cls ≠ "java/lang/invoke/VarHandle" ∧ (parseMethodDescriptor mX6_pack.1.desc).map (fun d => d.parameters.length) = some 2 ∧ mX6_pack.2.2.1 ≤ 45 := ⟨by decide, by decide, by decide +kernel, by decide⟩
theorem le_X6_pack : Cond.instanceMethod mX6_pack.1 ∈ zTs ∧ Cond.selects mX6_pack.1.cls mX6_pack.1 mX6_pack.1 ∈ zTs := ⟨zTb7 85 (by decide +kernel) rfl, zTb0 81 (by decide +kernel)⟩
theorem li_X6_pack : Cond.initialized mX6_pack.1.cls ∈ zTs := zTb1 7 (by decide +kernel) rfl
theorem lc_X6_unpack : Cond.code mX6_unpack.1 mX6_unpack.2.1 mX6_unpack.2.2.1 mX6_unpack.2.2.2 ∈ zTs := zTb7 154 (by decide +kernel) rfl
theorem ld_X6_unpack : mX6_unpack.1.cls ≠ "java/lang/invoke/MethodHandle" ∧ mX6_unpack.1.cls ≠ "java/lang/invoke/VarHandle" ∧ (parseMethodDescriptor mX6_unpack.1.desc).map (fun d => d.parameters.length) = some 2 ∧ mX6_unpack.2.2.1 ≤ 45 := ⟨by decide, by decide, by decide +kernel, by decide⟩
theorem le_X6_unpack : Cond.instanceMethod mX6_unpack.1 ∈ zTs ∧ Cond.selects mX6_unpack.1.cls mX6_unpack.1 mX6_unpack.1 ∈ zTs := ⟨zTb7 153 (by decide +kernel) rfl, zTb0 91 (by decide +kernel)⟩
theorem li_X6_unpack : Cond.initialized mX6_unpack.1.cls ∈ zTs := zTb1 7 (by decide +kernel) rfl
theorem lc_X6_gapNow : Cond.code mX6_gapNow.1 mX6_gapNow.2.1 mX6_gapNow.2.2.1 mX6_gapNow.2.2.2 ∈ zTs := zTb7 25 (by decide +kernel) rfl
theorem ld_X6_gapNow : mX6_gapNow.1.cls ≠ "java/lang/invoke/MethodHandle" ∧ mX6_gapNow.1.cls ≠ "java/lang/invoke/VarHandle" ∧ (parseMethodDescriptor mX6_gapNow.1.desc).map (fun d => d.parameters.length) = some 0 ∧ mX6_gapNow.2.2.1 ≤ 45 := ⟨by decide, by decide, by decide +kernel, by decide⟩
theorem le_X6_gapNow : Cond.instanceMethod mX6_gapNow.1 ∈ zTs ∧ Cond.selects mX6_gapNow.1.cls mX6_gapNow.1 mX6_gapNow.1 ∈ zTs := ⟨zTb7 24 (by decide +kernel) rfl, zTb0 74 (by decide +kernel)⟩
theorem li_X6_gapNow : Cond.initialized mX6_gapNow.1.cls ∈ zTs := zTb1 7 (by decide +kernel) rfl
theorem lc_X6_isLeaf : Cond.code mX6_isLeaf.1 mX6_isLeaf.2.1 mX6_isLeaf.2.2.1 mX6_isLeaf.2.2.2 ∈ zTs := zTb7 34 (by decide +kernel) rfl
theorem ld_X6_isLeaf : mX6_isLeaf.1.cls ≠ "java/lang/invoke/MethodHandle" ∧ mX6_isLeaf.1.cls ≠ "java/lang/invoke/VarHandle" ∧ (parseMethodDescriptor mX6_isLeaf.1.desc).map (fun d => d.parameters.length) = some 1 ∧ mX6_isLeaf.2.2.1 ≤ 45 := ⟨by decide, by decide, by decide +kernel, by decide⟩
theorem le_X6_isLeaf : Cond.instanceMethod mX6_isLeaf.1 ∈ zTs ∧ Cond.selects mX6_isLeaf.1.cls mX6_isLeaf.1 mX6_isLeaf.1 ∈ zTs := ⟨zTb7 33 (by decide +kernel) rfl, zTb0 75 (by decide +kernel)⟩
theorem li_X6_isLeaf : Cond.initialized mX6_isLeaf.1.cls ∈ zTs := zTb1 7 (by decide +kernel) rfl
theorem lc_X6_isJudge : Cond.code mX6_isJudge.1 mX6_isJudge.2.1 mX6_isJudge.2.2.1 mX6_isJudge.2.2.2 ∈ zTs := zTb7 45 (by decide +kernel) rfl
theorem ld_X6_isJudge : mX6_isJudge.1.cls ≠ "java/lang/invoke/MethodHandle" ∧ mX6_isJudge.1.cls ≠ "java/lang/invoke/VarHandle" ∧ (parseMethodDescriptor mX6_isJudge.1.desc).map (fun d => d.parameters.length) = some 1 ∧ mX6_isJudge.2.2.1 ≤ 45 := ⟨by decide, by decide, by decide +kernel, by decide⟩
theorem le_X6_isJudge : Cond.instanceMethod mX6_isJudge.1 ∈ zTs ∧ Cond.selects mX6_isJudge.1.cls mX6_isJudge.1 mX6_isJudge.1 ∈ zTs := ⟨zTb7 44 (by decide +kernel) rfl, zTb0 76 (by decide +kernel)⟩
theorem li_X6_isJudge : Cond.initialized mX6_isJudge.1.cls ∈ zTs := zTb1 7 (by decide +kernel) rfl
theorem lc_X6_seatOf : Cond.code mX6_seatOf.1 mX6_seatOf.2.1 mX6_seatOf.2.2.1 mX6_seatOf.2.2.2 ∈ zTs := zTb7 49 (by decide +kernel) rfl
theorem ld_X6_seatOf : mX6_seatOf.1.cls ≠ "java/lang/invoke/MethodHandle" ∧ mX6_seatOf.1.cls ≠ "java/lang/invoke/VarHandle" ∧ (parseMethodDescriptor mX6_seatOf.1.desc).map (fun d => d.parameters.length) = some 1 ∧ mX6_seatOf.2.2.1 ≤ 45 := ⟨by decide, by decide, by decide +kernel, by decide⟩
theorem le_X6_seatOf : Cond.instanceMethod mX6_seatOf.1 ∈ zTs ∧ Cond.selects mX6_seatOf.1.cls mX6_seatOf.1 mX6_seatOf.1 ∈ zTs := ⟨zTb7 48 (by decide +kernel) rfl, zTb0 77 (by decide +kernel)⟩
theorem li_X6_seatOf : Cond.initialized mX6_seatOf.1.cls ∈ zTs := zTb1 7 (by decide +kernel) rfl
theorem lc_X6_partyOf : Cond.code mX6_partyOf.1 mX6_partyOf.2.1 mX6_partyOf.2.2.1 mX6_partyOf.2.2.2 ∈ zTs := zTb7 53 (by decide +kernel) rfl
theorem ld_X6_partyOf : mX6_partyOf.1.cls ≠ "java/lang/invoke/MethodHandle" ∧ mX6_partyOf.1.cls ≠ "java/lang/invoke/VarHandle" ∧ (parseMethodDescriptor mX6_partyOf.1.desc).map (fun d => d.parameters.length) = some 1 ∧ mX6_partyOf.2.2.1 ≤ 45 := ⟨by decide, by decide, by decide +kernel, by decide⟩
theorem le_X6_partyOf : Cond.instanceMethod mX6_partyOf.1 ∈ zTs ∧ Cond.selects mX6_partyOf.1.cls mX6_partyOf.1 mX6_partyOf.1 ∈ zTs := ⟨zTb7 52 (by decide +kernel) rfl, zTb0 78 (by decide +kernel)⟩
theorem li_X6_partyOf : Cond.initialized mX6_partyOf.1.cls ∈ zTs := zTb1 7 (by decide +kernel) rfl
theorem lc_X6_isPlace : Cond.code mX6_isPlace.1 mX6_isPlace.2.1 mX6_isPlace.2.2.1 mX6_isPlace.2.2.2 ∈ zTs := zTb7 64 (by decide +kernel) rfl
theorem ld_X6_isPlace : mX6_isPlace.1.cls ≠ "java/lang/invoke/MethodHandle" ∧ mX6_isPlace.1.cls ≠ "java/lang/invoke/VarHandle" ∧ (parseMethodDescriptor mX6_isPlace.1.desc).map (fun d => d.parameters.length) = some 1 ∧ mX6_isPlace.2.2.1 ≤ 45 := ⟨by decide, by decide, by decide +kernel, by decide⟩
theorem le_X6_isPlace : Cond.static mX6_isPlace.1 ∈ zTs := zTb7 63 (by decide +kernel) rfl
theorem li_X6_isPlace : Cond.initialized mX6_isPlace.1.cls ∈ zTs := zTb1 7 (by decide +kernel) rfl
theorem lc_X6_refuse : Cond.code mX6_refuse.1 mX6_refuse.2.1 mX6_refuse.2.2.1 mX6_refuse.2.2.2 ∈ zTs := zTb7 78 (by decide +kernel) rfl
theorem ld_X6_refuse : mX6_refuse.1.cls ≠ "java/lang/invoke/MethodHandle" ∧ mX6_refuse.1.cls ≠ "java/lang/invoke/VarHandle" ∧ (parseMethodDescriptor mX6_refuse.1.desc).map (fun d => d.parameters.length) = some 1 ∧ mX6_refuse.2.2.1 ≤ 45 := ⟨by decide, by decide, by decide +kernel, by decide⟩
theorem le_X6_refuse : Cond.instanceMethod mX6_refuse.1 ∈ zTs ∧ Cond.selects mX6_refuse.1.cls mX6_refuse.1 mX6_refuse.1 ∈ zTs := ⟨zTb7 77 (by decide +kernel) rfl, zTb0 79 (by decide +kernel)⟩
theorem li_X6_refuse : Cond.initialized mX6_refuse.1.cls ∈ zTs := zTb1 7 (by decide +kernel) rfl
theorem lc_X6_keep : Cond.code mX6_keep.1 mX6_keep.2.1 mX6_keep.2.2.1 mX6_keep.2.2.2 ∈ zTs := zTb7 82 (by decide +kernel) rfl
theorem ld_X6_keep : mX6_keep.1.cls ≠ "java/lang/invoke/MethodHandle" ∧ mX6_keep.1.cls ≠ "java/lang/invoke/VarHandle" ∧ (parseMethodDescriptor mX6_keep.1.desc).map (fun d => d.parameters.length) = some 0 ∧ mX6_keep.2.2.1 ≤ 45 := ⟨by decide, by decide, by decide +kernel, by decide⟩
theorem le_X6_keep : Cond.instanceMethod mX6_keep.1 ∈ zTs ∧ Cond.selects mX6_keep.1.cls mX6_keep.1 mX6_keep.1 ∈ zTs := ⟨zTb7 81 (by decide +kernel) rfl, zTb0 80 (by decide +kernel)⟩
theorem li_X6_keep : Cond.initialized mX6_keep.1.cls ∈ zTs := zTb1 7 (by decide +kernel) rfl
theorem lc_X6_goOn : Cond.code mX6_goOn.1 mX6_goOn.2.1 mX6_goOn.2.2.1 mX6_goOn.2.2.2 ∈ zTs := zTb7 90 (by decide +kernel) rfl
theorem ld_X6_goOn : mX6_goOn.1.cls ≠ "java/lang/invoke/MethodHandle" ∧ mX6_goOn.1.cls ≠ "java/lang/invoke/VarHandle" ∧ (parseMethodDescriptor mX6_goOn.1.desc).map (fun d => d.parameters.length) = some 1 ∧ mX6_goOn.2.2.1 ≤ 45 := ⟨by decide, by decide, by decide +kernel, by decide⟩
theorem le_X6_goOn : Cond.instanceMethod mX6_goOn.1 ∈ zTs ∧ Cond.selects mX6_goOn.1.cls mX6_goOn.1 mX6_goOn.1 ∈ zTs := ⟨zTb7 89 (by decide +kernel) rfl, zTb0 82 (by decide +kernel)⟩
theorem li_X6_goOn : Cond.initialized mX6_goOn.1.cls ∈ zTs := zTb1 7 (by decide +kernel) rfl
theorem lc_X6_failing : Cond.code mX6_failing.1 mX6_failing.2.1 mX6_failing.2.2.1 mX6_failing.2.2.2 ∈ zTs := zTb7 128 (by decide +kernel) rfl
theorem ld_X6_failing : mX6_failing.1.cls ≠ "java/lang/invoke/MethodHandle" ∧ mX6_failing.1.cls ≠ "java/lang/invoke/VarHandle" ∧ (parseMethodDescriptor mX6_failing.1.desc).map (fun d => d.parameters.length) = some 1 ∧ mX6_failing.2.2.1 ≤ 45 := ⟨by decide, by decide, by decide +kernel, by decide⟩
theorem le_X6_failing : Cond.instanceMethod mX6_failing.1 ∈ zTs ∧ Cond.selects mX6_failing.1.cls mX6_failing.1 mX6_failing.1 ∈ zTs := ⟨zTb7 127 (by decide +kernel) rfl, zTb0 89 (by decide +kernel)⟩
theorem li_X6_failing : Cond.initialized mX6_failing.1.cls ∈ zTs := zTb1 7 (by decide +kernel) rfl
theorem lc_X6_swap : Cond.code mX6_swap.1 mX6_swap.2.1 mX6_swap.2.2.1 mX6_swap.2.2.2 ∈ zTs := zTb7 132 (by decide +kernel) rfl
theorem ld_X6_swap : mX6_swap.1.cls ≠ "java/lang/invoke/MethodHandle" ∧ mX6_swap.1.cls ≠ "java/lang/invoke/VarHandle" ∧ (parseMethodDescriptor mX6_swap.1.desc).map (fun d => d.parameters.length) = some 2 ∧ mX6_swap.2.2.1 ≤ 45 := ⟨by decide, by decide, by decide +kernel, by decide⟩
theorem le_X6_swap : Cond.instanceMethod mX6_swap.1 ∈ zTs ∧ Cond.selects mX6_swap.1.cls mX6_swap.1 mX6_swap.1 ∈ zTs := ⟨zTb7 131 (by decide +kernel) rfl, zTb0 90 (by decide +kernel)⟩
theorem li_X6_swap : Cond.initialized mX6_swap.1.cls ∈ zTs := zTb1 7 (by decide +kernel) rfl
theorem lc_X6_isVerdict : Cond.code mX6_isVerdict.1 mX6_isVerdict.2.1 mX6_isVerdict.2.2.1 mX6_isVerdict.2.2.2 ∈ zTs := zTb7 170 (by decide +kernel) rfl
theorem ld_X6_isVerdict : mX6_isVerdict.1.cls ≠ "java/lang/invoke/MethodHandle" ∧ mX6_isVerdict.1.cls ≠ "java/lang/invoke/VarHandle" ∧ (parseMethodDescriptor mX6_isVerdict.1.desc).map (fun d => d.parameters.length) = some 1 ∧ mX6_isVerdict.2.2.1 ≤ 45 := ⟨by decide, by decide, by decide +kernel, by decide⟩
theorem le_X6_isVerdict : Cond.static mX6_isVerdict.1 ∈ zTs := zTb7 169 (by decide +kernel) rfl
theorem li_X6_isVerdict : Cond.initialized mX6_isVerdict.1.cls ∈ zTs := zTb1 7 (by decide +kernel) rfl
theorem lc_X6_tellVerdicts : Cond.code mX6_tellVerdicts.1 mX6_tellVerdicts.2.1 mX6_tellVerdicts.2.2.1 mX6_tellVerdicts.2.2.2 ∈ zTs := zTb7 175 (by decide +kernel) rfl
theorem ld_X6_tellVerdicts : mX6_tellVerdicts.1.cls ≠ "java/lang/invoke/MethodHandle" ∧ mX6_tellVerdicts.1.cls ≠ "java/lang/invoke/VarHandle" ∧ (parseMethodDescriptor mX6_tellVerdicts.1.desc).map (fun d => d.parameters.length) = some 1 ∧ mX6_tellVerdicts.2.2.1 ≤ 45 := ⟨by decide, by decide, by decide +kernel, by decide⟩
theorem le_X6_tellVerdicts : Cond.instanceMethod mX6_tellVerdicts.1 ∈ zTs ∧ Cond.selects mX6_tellVerdicts.1.cls mX6_tellVerdicts.1 mX6_tellVerdicts.1 ∈ zTs := ⟨zTb7 174 (by decide +kernel) rfl, zTb0 92 (by decide +kernel)⟩
theorem li_X6_tellVerdicts : Cond.initialized mX6_tellVerdicts.1.cls ∈ zTs := zTb1 7 (by decide +kernel) rfl
theorem lc_X6_nextVerdict : Cond.code mX6_nextVerdict.1 mX6_nextVerdict.2.1 mX6_nextVerdict.2.2.1 mX6_nextVerdict.2.2.2 ∈ zTs := zTb7 223 (by decide +kernel) rfl
theorem ld_X6_nextVerdict : mX6_nextVerdict.1.cls ≠ "java/lang/invoke/MethodHandle" ∧ mX6_nextVerdict.1.cls ≠ "java/lang/invoke/VarHandle" ∧ (parseMethodDescriptor mX6_nextVerdict.1.desc).map (fun d => d.parameters.length) = some 0 ∧ mX6_nextVerdict.2.2.1 ≤ 45 := ⟨by decide, by decide, by decide +kernel, by decide⟩
theorem le_X6_nextVerdict : Cond.instanceMethod mX6_nextVerdict.1 ∈ zTs ∧ Cond.selects mX6_nextVerdict.1.cls mX6_nextVerdict.1 mX6_nextVerdict.1 ∈ zTs := ⟨zTb7 222 (by decide +kernel) rfl, zTb0 94 (by decide +kernel)⟩
theorem li_X6_nextVerdict : Cond.initialized mX6_nextVerdict.1.cls ∈ zTs := zTb1 7 (by decide +kernel) rfl
theorem lc_X6_copyTo : Cond.code mX6_copyTo.1 mX6_copyTo.2.1 mX6_copyTo.2.2.1 mX6_copyTo.2.2.2 ∈ zTs := zTb7 215 (by decide +kernel) rfl
theorem ld_X6_copyTo : mX6_copyTo.1.cls ≠ "java/lang/invoke/MethodHandle" ∧ mX6_copyTo.1.cls ≠ "java/lang/invoke/VarHandle" ∧ (parseMethodDescriptor mX6_copyTo.1.desc).map (fun d => d.parameters.length) = some 2 ∧ mX6_copyTo.2.2.1 ≤ 45 := ⟨by decide, by decide, by decide +kernel, by decide⟩
theorem le_X6_copyTo : Cond.static mX6_copyTo.1 ∈ zTs := zTb7 214 (by decide +kernel) rfl
theorem li_X6_copyTo : Cond.initialized mX6_copyTo.1.cls ∈ zTs := zTb1 7 (by decide +kernel) rfl
theorem lc_X6_isOf : Cond.code mX6_isOf.1 mX6_isOf.2.1 mX6_isOf.2.2.1 mX6_isOf.2.2.2 ∈ zTs := zTb7 226 (by decide +kernel) rfl
theorem ld_X6_isOf : mX6_isOf.1.cls ≠ "java/lang/invoke/MethodHandle" ∧ mX6_isOf.1.cls ≠ "java/lang/invoke/VarHandle" ∧ (parseMethodDescriptor mX6_isOf.1.desc).map (fun d => d.parameters.length) = some 2 ∧ mX6_isOf.2.2.1 ≤ 45 := ⟨by decide, by decide, by decide +kernel, by decide⟩
theorem le_X6_isOf : Cond.static mX6_isOf.1 ∈ zTs := zTb7 225 (by decide +kernel) rfl
theorem li_X6_isOf : Cond.initialized mX6_isOf.1.cls ∈ zTs := zTb1 7 (by decide +kernel) rfl
theorem lc_X6_seatFrom : Cond.code mX6_seatFrom.1 mX6_seatFrom.2.1 mX6_seatFrom.2.2.1 mX6_seatFrom.2.2.2 ∈ zTs := zTb7 219 (by decide +kernel) rfl
theorem ld_X6_seatFrom : mX6_seatFrom.1.cls ≠ "java/lang/invoke/MethodHandle" ∧ mX6_seatFrom.1.cls ≠ "java/lang/invoke/VarHandle" ∧ (parseMethodDescriptor mX6_seatFrom.1.desc).map (fun d => d.parameters.length) = some 3 ∧ mX6_seatFrom.2.2.1 ≤ 45 := ⟨by decide, by decide, by decide +kernel, by decide⟩
theorem le_X6_seatFrom : Cond.instanceMethod mX6_seatFrom.1 ∈ zTs ∧ Cond.selects mX6_seatFrom.1.cls mX6_seatFrom.1 mX6_seatFrom.1 ∈ zTs := ⟨zTb7 218 (by decide +kernel) rfl, zTb0 93 (by decide +kernel)⟩
theorem li_X6_seatFrom : Cond.initialized mX6_seatFrom.1.cls ∈ zTs := zTb1 7 (by decide +kernel) rfl
theorem lc_X6_turnAll : Cond.code mX6_turnAll.1 mX6_turnAll.2.1 mX6_turnAll.2.2.1 mX6_turnAll.2.2.2 ∈ zTs := zTb7 234 (by decide +kernel) rfl
theorem ld_X6_turnAll : mX6_turnAll.1.cls ≠ "java/lang/invoke/MethodHandle" ∧ mX6_turnAll.1.cls ≠ "java/lang/invoke/VarHandle" ∧ (parseMethodDescriptor mX6_turnAll.1.desc).map (fun d => d.parameters.length) = some 1 ∧ mX6_turnAll.2.2.1 ≤ 45 := ⟨by decide, by decide, by decide +kernel, by decide⟩
theorem le_X6_turnAll : Cond.instanceMethod mX6_turnAll.1 ∈ zTs ∧ Cond.selects mX6_turnAll.1.cls mX6_turnAll.1 mX6_turnAll.1 ∈ zTs := ⟨zTb7 233 (by decide +kernel) rfl, zTb0 95 (by decide +kernel)⟩
theorem li_X6_turnAll : Cond.initialized mX6_turnAll.1.cls ∈ zTs := zTb1 7 (by decide +kernel) rfl
theorem lc_X6_isAsRead : Cond.code mX6_isAsRead.1 mX6_isAsRead.2.1 mX6_isAsRead.2.2.1 mX6_isAsRead.2.2.2 ∈ zTs := zTb8 36 (by decide +kernel) rfl
theorem ld_X6_isAsRead : mX6_isAsRead.1.cls ≠ "java/lang/invoke/MethodHandle" ∧ mX6_isAsRead.1.cls ≠ "java/lang/invoke/VarHandle" ∧ (parseMethodDescriptor mX6_isAsRead.1.desc).map (fun d => d.parameters.length) = some 0 ∧ mX6_isAsRead.2.2.1 ≤ 45 := ⟨by decide, by decide, by decide +kernel, by decide⟩
theorem le_X6_isAsRead : Cond.instanceMethod mX6_isAsRead.1 ∈ zTs ∧ Cond.selects mX6_isAsRead.1.cls mX6_isAsRead.1 mX6_isAsRead.1 ∈ zTs := ⟨zTb8 35 (by decide +kernel) rfl, zTb0 96 (by decide +kernel)⟩
theorem li_X6_isAsRead : Cond.initialized mX6_isAsRead.1.cls ∈ zTs := zTb1 7 (by decide +kernel) rfl
theorem lc_X6_tellFits : Cond.code mX6_tellFits.1 mX6_tellFits.2.1 mX6_tellFits.2.2.1 mX6_tellFits.2.2.2 ∈ zTs := zTb8 40 (by decide +kernel) rfl
theorem ld_X6_tellFits : mX6_tellFits.1.cls ≠ "java/lang/invoke/MethodHandle" ∧ mX6_tellFits.1.cls ≠ "java/lang/invoke/VarHandle" ∧ (parseMethodDescriptor mX6_tellFits.1.desc).map (fun d => d.parameters.length) = some 0 ∧ mX6_tellFits.2.2.1 ≤ 45 := ⟨by decide, by decide, by decide +kernel, by decide⟩
theorem le_X6_tellFits : Cond.instanceMethod mX6_tellFits.1 ∈ zTs ∧ Cond.selects mX6_tellFits.1.cls mX6_tellFits.1 mX6_tellFits.1 ∈ zTs := ⟨zTb8 39 (by decide +kernel) rfl, zTb0 97 (by decide +kernel)⟩
theorem li_X6_tellFits : Cond.initialized mX6_tellFits.1.cls ∈ zTs := zTb1 7 (by decide +kernel) rfl
theorem lc_X6_unlike : Cond.code mX6_unlike.1 mX6_unlike.2.1 mX6_unlike.2.2.1 mX6_unlike.2.2.2 ∈ zTs := zTb8 48 (by decide +kernel) rfl
theorem ld_X6_unlike : mX6_unlike.1.cls ≠ "java/lang/invoke/MethodHandle" ∧ mX6_unlike.1.cls ≠ "java/lang/invoke/VarHandle" ∧ (parseMethodDescriptor mX6_unlike.1.desc).map (fun d => d.parameters.length) = some 1 ∧ mX6_unlike.2.2.1 ≤ 45 := ⟨by decide, by decide, by decide +kernel, by decide⟩
theorem le_X6_unlike : Cond.instanceMethod mX6_unlike.1 ∈ zTs ∧ Cond.selects mX6_unlike.1.cls mX6_unlike.1 mX6_unlike.1 ∈ zTs := ⟨zTb8 47 (by decide +kernel) rfl, zTb0 98 (by decide +kernel)⟩
theorem li_X6_unlike : Cond.initialized mX6_unlike.1.cls ∈ zTs := zTb1 7 (by decide +kernel) rfl
theorem lc_X6_gainOf : Cond.code mX6_gainOf.1 mX6_gainOf.2.1 mX6_gainOf.2.2.1 mX6_gainOf.2.2.2 ∈ zTs := zTb8 60 (by decide +kernel) rfl
theorem ld_X6_gainOf : mX6_gainOf.1.cls ≠ "java/lang/invoke/MethodHandle" ∧ mX6_gainOf.1.cls ≠ "java/lang/invoke/VarHandle" ∧ (parseMethodDescriptor mX6_gainOf.1.desc).map (fun d => d.parameters.length) = some 3 ∧ mX6_gainOf.2.2.1 ≤ 45 := ⟨by decide, by decide, by decide +kernel, by decide⟩
theorem le_X6_gainOf : Cond.instanceMethod mX6_gainOf.1 ∈ zTs ∧ Cond.selects mX6_gainOf.1.cls mX6_gainOf.1 mX6_gainOf.1 ∈ zTs := ⟨zTb8 59 (by decide +kernel) rfl, zTb0 99 (by decide +kernel)⟩
theorem li_X6_gainOf : Cond.initialized mX6_gainOf.1.cls ∈ zTs := zTb1 7 (by decide +kernel) rfl
theorem lc_X6_drawOf : Cond.code mX6_drawOf.1 mX6_drawOf.2.1 mX6_drawOf.2.2.1 mX6_drawOf.2.2.2 ∈ zTs := zTb8 72 (by decide +kernel) rfl
theorem ld_X6_drawOf : mX6_drawOf.1.cls ≠ "java/lang/invoke/MethodHandle" ∧ mX6_drawOf.1.cls ≠ "java/lang/invoke/VarHandle" ∧ (parseMethodDescriptor mX6_drawOf.1.desc).map (fun d => d.parameters.length) = some 1 ∧ mX6_drawOf.2.2.1 ≤ 45 := ⟨by decide, by decide, by decide +kernel, by decide⟩
theorem le_X6_drawOf : Cond.instanceMethod mX6_drawOf.1 ∈ zTs ∧ Cond.selects mX6_drawOf.1.cls mX6_drawOf.1 mX6_drawOf.1 ∈ zTs := ⟨zTb8 71 (by decide +kernel) rfl, zTb0 101 (by decide +kernel)⟩
theorem li_X6_drawOf : Cond.initialized mX6_drawOf.1.cls ∈ zTs := zTb1 7 (by decide +kernel) rfl
theorem lc_X6_something : Cond.code mX6_something.1 mX6_something.2.1 mX6_something.2.2.1 mX6_something.2.2.2 ∈ zTs := zTb8 68 (by decide +kernel) rfl
theorem ld_X6_something : mX6_something.1.cls ≠ "java/lang/invoke/MethodHandle" ∧ mX6_something.1.cls ≠ "java/lang/invoke/VarHandle" ∧ (parseMethodDescriptor mX6_something.1.desc).map (fun d => d.parameters.length) = some 0 ∧ mX6_something.2.2.1 ≤ 45 := ⟨by decide, by decide, by decide +kernel, by decide⟩
theorem le_X6_something : Cond.instanceMethod mX6_something.1 ∈ zTs ∧ Cond.selects mX6_something.1.cls mX6_something.1 mX6_something.1 ∈ zTs := ⟨zTb8 67 (by decide +kernel) rfl, zTb0 100 (by decide +kernel)⟩
theorem li_X6_something : Cond.initialized mX6_something.1.cls ∈ zTs := zTb1 7 (by decide +kernel) rfl
theorem lc_X5_court : Cond.code mX5_court.1 mX5_court.2.1 mX5_court.2.2.1 mX5_court.2.2.2 ∈ zTs := zTb2 229 (by decide +kernel) rfl
theorem ld_X5_court : mX5_court.1.cls ≠ "java/lang/invoke/MethodHandle" ∧ mX5_court.1.cls ≠ "java/lang/invoke/VarHandle" ∧ (parseMethodDescriptor mX5_court.1.desc).map (fun d => d.parameters.length) = some 1 ∧ mX5_court.2.2.1 ≤ 45 := ⟨by decide, by decide, by decide +kernel, by decide⟩
theorem le_X5_court : Cond.instanceMethod mX5_court.1 ∈ zTs ∧ Cond.selects mX5_court.1.cls mX5_court.1 mX5_court.1 ∈ zTs := ⟨zTb2 227 (by decide +kernel) rfl, zTb2 228 (by decide +kernel) rfl⟩
theorem li_X5_court : Cond.initialized mX5_court.1.cls ∈ zTs := zTb1 1 (by decide +kernel) rfl
theorem lc_X5_count : Cond.code mX5_count.1 mX5_count.2.1 mX5_count.2.2.1 mX5_count.2.2.2 ∈ zTs := zTb4 7 (by decide +kernel) rfl
theorem ld_X5_count : mX5_count.1.cls ≠ "java/lang/invoke/MethodHandle" ∧ mX5_count.1.cls ≠ "java/lang/invoke/VarHandle" ∧ (parseMethodDescriptor mX5_count.1.desc).map (fun d => d.parameters.length) = some 1 ∧ mX5_count.2.2.1 ≤ 45 := ⟨by decide, by decide, by decide +kernel, by decide⟩
theorem le_X5_count : Cond.instanceMethod mX5_count.1 ∈ zTs ∧ Cond.selects mX5_count.1.cls mX5_count.1 mX5_count.1 ∈ zTs := ⟨zTb4 5 (by decide +kernel) rfl, zTb4 6 (by decide +kernel) rfl⟩
theorem li_X5_count : Cond.initialized mX5_count.1.cls ∈ zTs := zTb1 1 (by decide +kernel) rfl
theorem lc_X5_leaf : Cond.code mX5_leaf.1 mX5_leaf.2.1 mX5_leaf.2.2.1 mX5_leaf.2.2.2 ∈ zTs := zTb4 39 (by decide +kernel) rfl
theorem ld_X5_leaf : mX5_leaf.1.cls ≠ "java/lang/invoke/MethodHandle" ∧ mX5_leaf.1.cls ≠ "java/lang/invoke/VarHandle" ∧ (parseMethodDescriptor mX5_leaf.1.desc).map (fun d => d.parameters.length) = some 2 ∧ mX5_leaf.2.2.1 ≤ 45 := ⟨by decide, by decide, by decide +kernel, by decide⟩
theorem le_X5_leaf : Cond.instanceMethod mX5_leaf.1 ∈ zTs ∧ Cond.selects mX5_leaf.1.cls mX5_leaf.1 mX5_leaf.1 ∈ zTs := ⟨zTb4 37 (by decide +kernel) rfl, zTb4 38 (by decide +kernel) rfl⟩
theorem li_X5_leaf : Cond.initialized mX5_leaf.1.cls ∈ zTs := zTb1 1 (by decide +kernel) rfl
theorem lc_X5_judge : Cond.code mX5_judge.1 mX5_judge.2.1 mX5_judge.2.2.1 mX5_judge.2.2.2 ∈ zTs := zTb4 52 (by decide +kernel) rfl
theorem ld_X5_judge : mX5_judge.1.cls ≠ "java/lang/invoke/MethodHandle" ∧ mX5_judge.1.cls ≠ "java/lang/invoke/VarHandle" ∧ (parseMethodDescriptor mX5_judge.1.desc).map (fun d => d.parameters.length) = some 2 ∧ mX5_judge.2.2.1 ≤ 45 := ⟨by decide, by decide, by decide +kernel, by decide⟩
theorem le_X5_judge : Cond.instanceMethod mX5_judge.1 ∈ zTs ∧ Cond.selects mX5_judge.1.cls mX5_judge.1 mX5_judge.1 ∈ zTs := ⟨zTb4 50 (by decide +kernel) rfl, zTb4 51 (by decide +kernel) rfl⟩
theorem li_X5_judge : Cond.initialized mX5_judge.1.cls ∈ zTs := zTb1 1 (by decide +kernel) rfl
theorem lc_X5_seat : Cond.code mX5_seat.1 mX5_seat.2.1 mX5_seat.2.2.1 mX5_seat.2.2.2 ∈ zTs := zTb4 73 (by decide +kernel) rfl
theorem ld_X5_seat : mX5_seat.1.cls ≠ "java/lang/invoke/MethodHandle" ∧ mX5_seat.1.cls ≠ "java/lang/invoke/VarHandle" ∧ (parseMethodDescriptor mX5_seat.1.desc).map (fun d => d.parameters.length) = some 1 ∧ mX5_seat.2.2.1 ≤ 45 := ⟨by decide, by decide, by decide +kernel, by decide⟩
theorem le_X5_seat : Cond.instanceMethod mX5_seat.1 ∈ zTs ∧ Cond.selects mX5_seat.1.cls mX5_seat.1 mX5_seat.1 ∈ zTs := ⟨zTb4 71 (by decide +kernel) rfl, zTb4 72 (by decide +kernel) rfl⟩
theorem li_X5_seat : Cond.initialized mX5_seat.1.cls ∈ zTs := zTb1 1 (by decide +kernel) rfl
theorem lc_X5_heap : Cond.code mX5_heap.1 mX5_heap.2.1 mX5_heap.2.2.1 mX5_heap.2.2.2 ∈ zTs := zTb4 81 (by decide +kernel) rfl
theorem ld_X5_heap : mX5_heap.1.cls ≠ "java/lang/invoke/MethodHandle" ∧ mX5_heap.1.cls ≠ "java/lang/invoke/VarHandle" ∧ (parseMethodDescriptor mX5_heap.1.desc).map (fun d => d.parameters.length) = some 1 ∧ mX5_heap.2.2.1 ≤ 45 := ⟨by decide, by decide, by decide +kernel, by decide⟩
theorem le_X5_heap : Cond.instanceMethod mX5_heap.1 ∈ zTs ∧ Cond.selects mX5_heap.1.cls mX5_heap.1 mX5_heap.1 ∈ zTs := ⟨zTb4 79 (by decide +kernel) rfl, zTb4 80 (by decide +kernel) rfl⟩
theorem li_X5_heap : Cond.initialized mX5_heap.1.cls ∈ zTs := zTb1 1 (by decide +kernel) rfl
theorem lc_X5_change : Cond.code mX5_change.1 mX5_change.2.1 mX5_change.2.2.1 mX5_change.2.2.2 ∈ zTs := zTb4 92 (by decide +kernel) rfl
theorem ld_X5_change : mX5_change.1.cls ≠ "java/lang/invoke/MethodHandle" ∧ mX5_change.1.cls ≠ "java/lang/invoke/VarHandle" ∧ (parseMethodDescriptor mX5_change.1.desc).map (fun d => d.parameters.length) = some 2 ∧ mX5_change.2.2.1 ≤ 45 := ⟨by decide, by decide, by decide +kernel, by decide⟩
theorem le_X5_change : Cond.instanceMethod mX5_change.1 ∈ zTs ∧ Cond.selects mX5_change.1.cls mX5_change.1 mX5_change.1 ∈ zTs := ⟨zTb4 90 (by decide +kernel) rfl, zTb4 91 (by decide +kernel) rfl⟩
theorem li_X5_change : Cond.initialized mX5_change.1.cls ∈ zTs := zTb1 1 (by decide +kernel) rfl
theorem lc_X5_hand : Cond.code mX5_hand.1 mX5_hand.2.1 mX5_hand.2.2.1 mX5_hand.2.2.2 ∈ zTs := zTb4 104 (by decide +kernel) rfl
theorem ld_X5_hand : mX5_hand.1.cls ≠ "java/lang/invoke/MethodHandle" ∧ mX5_hand.1.cls ≠ "java/lang/invoke/VarHandle" ∧ (parseMethodDescriptor mX5_hand.1.desc).map (fun d => d.parameters.length) = some 2 ∧ mX5_hand.2.2.1 ≤ 45 := ⟨by decide, by decide, by decide +kernel, by decide⟩
theorem le_X5_hand : Cond.instanceMethod mX5_hand.1 ∈ zTs ∧ Cond.selects mX5_hand.1.cls mX5_hand.1 mX5_hand.1 ∈ zTs := ⟨zTb4 102 (by decide +kernel) rfl, zTb4 103 (by decide +kernel) rfl⟩
theorem li_X5_hand : Cond.initialized mX5_hand.1.cls ∈ zTs := zTb1 1 (by decide +kernel) rfl
theorem lc_X5_put : Cond.code mX5_put.1 mX5_put.2.1 mX5_put.2.2.1 mX5_put.2.2.2 ∈ zTs := zTb4 111 (by decide +kernel) rfl
theorem ld_X5_put : mX5_put.1.cls ≠ "java/lang/invoke/MethodHandle" ∧ mX5_put.1.cls ≠ "java/lang/invoke/VarHandle" ∧ (parseMethodDescriptor mX5_put.1.desc).map (fun d => d.parameters.length) = some 2 ∧ mX5_put.2.2.1 ≤ 45 := ⟨by decide, by decide, by decide +kernel, by decide⟩
theorem le_X5_put : Cond.instanceMethod mX5_put.1 ∈ zTs ∧ Cond.selects mX5_put.1.cls mX5_put.1 mX5_put.1 ∈ zTs := ⟨zTb4 109 (by decide +kernel) rfl, zTb4 110 (by decide +kernel) rfl⟩
theorem li_X5_put : Cond.initialized mX5_put.1.cls ∈ zTs := zTb1 1 (by decide +kernel) rfl
theorem lc_X5_verdict : Cond.code mX5_verdict.1 mX5_verdict.2.1 mX5_verdict.2.2.1 mX5_verdict.2.2.2 ∈ zTs := zTb4 118 (by decide +kernel) rfl
theorem ld_X5_verdict : mX5_verdict.1.cls ≠ "java/lang/invoke/MethodHandle" ∧ mX5_verdict.1.cls ≠ "java/lang/invoke/VarHandle" ∧ (parseMethodDescriptor mX5_verdict.1.desc).map (fun d => d.parameters.length) = some 2 ∧ mX5_verdict.2.2.1 ≤ 45 := ⟨by decide, by decide, by decide +kernel, by decide⟩
theorem le_X5_verdict : Cond.instanceMethod mX5_verdict.1 ∈ zTs ∧ Cond.selects mX5_verdict.1.cls mX5_verdict.1 mX5_verdict.1 ∈ zTs := ⟨zTb4 116 (by decide +kernel) rfl, zTb4 117 (by decide +kernel) rfl⟩
theorem li_X5_verdict : Cond.initialized mX5_verdict.1.cls ∈ zTs := zTb1 1 (by decide +kernel) rfl
theorem lc_X5_lies : Cond.code mX5_lies.1 mX5_lies.2.1 mX5_lies.2.2.1 mX5_lies.2.2.2 ∈ zTs := zTb4 137 (by decide +kernel) rfl
theorem ld_X5_lies : mX5_lies.1.cls ≠ "java/lang/invoke/MethodHandle" ∧ mX5_lies.1.cls ≠ "java/lang/invoke/VarHandle" ∧ (parseMethodDescriptor mX5_lies.1.desc).map (fun d => d.parameters.length) = some 2 ∧ mX5_lies.2.2.1 ≤ 45 := ⟨by decide, by decide, by decide +kernel, by decide⟩
theorem le_X5_lies : Cond.instanceMethod mX5_lies.1 ∈ zTs ∧ Cond.selects mX5_lies.1.cls mX5_lies.1 mX5_lies.1 ∈ zTs := ⟨zTb4 135 (by decide +kernel) rfl, zTb4 136 (by decide +kernel) rfl⟩
theorem li_X5_lies : Cond.initialized mX5_lies.1.cls ∈ zTs := zTb1 1 (by decide +kernel) rfl
theorem lc_X5_often : Cond.code mX5_often.1 mX5_often.2.1 mX5_often.2.2.1 mX5_often.2.2.2 ∈ zTs := zTb4 144 (by decide +kernel) rfl
theorem ld_X5_often : mX5_often.1.cls ≠ "java/lang/invoke/MethodHandle" ∧ mX5_often.1.cls ≠ "java/lang/invoke/VarHandle" ∧ (parseMethodDescriptor mX5_often.1.desc).map (fun d => d.parameters.length) = some 2 ∧ mX5_often.2.2.1 ≤ 45 := ⟨by decide, by decide, by decide +kernel, by decide⟩
theorem le_X5_often : Cond.instanceMethod mX5_often.1 ∈ zTs ∧ Cond.selects mX5_often.1.cls mX5_often.1 mX5_often.1 ∈ zTs := ⟨zTb4 142 (by decide +kernel) rfl, zTb4 143 (by decide +kernel) rfl⟩
theorem li_X5_often : Cond.initialized mX5_often.1.cls ∈ zTs := zTb1 1 (by decide +kernel) rfl
theorem lc_X5_first : Cond.code mX5_first.1 mX5_first.2.1 mX5_first.2.2.1 mX5_first.2.2.2 ∈ zTs := zTb4 155 (by decide +kernel) rfl
theorem ld_X5_first : mX5_first.1.cls ≠ "java/lang/invoke/MethodHandle" ∧ mX5_first.1.cls ≠ "java/lang/invoke/VarHandle" ∧ (parseMethodDescriptor mX5_first.1.desc).map (fun d => d.parameters.length) = some 1 ∧ mX5_first.2.2.1 ≤ 45 := ⟨by decide, by decide, by decide +kernel, by decide⟩
theorem le_X5_first : Cond.instanceMethod mX5_first.1 ∈ zTs ∧ Cond.selects mX5_first.1.cls mX5_first.1 mX5_first.1 ∈ zTs := ⟨zTb4 153 (by decide +kernel) rfl, zTb4 154 (by decide +kernel) rfl⟩
theorem li_X5_first : Cond.initialized mX5_first.1.cls ∈ zTs := zTb1 1 (by decide +kernel) rfl
theorem lc_X5_pleased : Cond.code mX5_pleased.1 mX5_pleased.2.1 mX5_pleased.2.2.1 mX5_pleased.2.2.2 ∈ zTs := zTb4 162 (by decide +kernel) rfl
theorem ld_X5_pleased : mX5_pleased.1.cls ≠ "java/lang/invoke/MethodHandle" ∧ mX5_pleased.1.cls ≠ "java/lang/invoke/VarHandle" ∧ (parseMethodDescriptor mX5_pleased.1.desc).map (fun d => d.parameters.length) = some 1 ∧ mX5_pleased.2.2.1 ≤ 45 := ⟨by decide, by decide, by decide +kernel, by decide⟩
theorem le_X5_pleased : Cond.instanceMethod mX5_pleased.1 ∈ zTs ∧ Cond.selects mX5_pleased.1.cls mX5_pleased.1 mX5_pleased.1 ∈ zTs := ⟨zTb4 160 (by decide +kernel) rfl, zTb4 161 (by decide +kernel) rfl⟩
theorem li_X5_pleased : Cond.initialized mX5_pleased.1.cls ∈ zTs := zTb1 1 (by decide +kernel) rfl
theorem lc_X5_swept : Cond.code mX5_swept.1 mX5_swept.2.1 mX5_swept.2.2.1 mX5_swept.2.2.2 ∈ zTs := zTb4 177 (by decide +kernel) rfl
theorem ld_X5_swept : mX5_swept.1.cls ≠ "java/lang/invoke/MethodHandle" ∧ mX5_swept.1.cls ≠ "java/lang/invoke/VarHandle" ∧ (parseMethodDescriptor mX5_swept.1.desc).map (fun d => d.parameters.length) = some 1 ∧ mX5_swept.2.2.1 ≤ 45 := ⟨by decide, by decide, by decide +kernel, by decide⟩
theorem le_X5_swept : Cond.instanceMethod mX5_swept.1 ∈ zTs ∧ Cond.selects mX5_swept.1.cls mX5_swept.1 mX5_swept.1 ∈ zTs := ⟨zTb4 175 (by decide +kernel) rfl, zTb4 176 (by decide +kernel) rfl⟩
theorem li_X5_swept : Cond.initialized mX5_swept.1.cls ∈ zTs := zTb1 1 (by decide +kernel) rfl
theorem lc_X5_orders : Cond.code mX5_orders.1 mX5_orders.2.1 mX5_orders.2.2.1 mX5_orders.2.2.2 ∈ zTs := zTb4 188 (by decide +kernel) rfl
theorem ld_X5_orders : mX5_orders.1.cls ≠ "java/lang/invoke/MethodHandle" ∧ mX5_orders.1.cls ≠ "java/lang/invoke/VarHandle" ∧ (parseMethodDescriptor mX5_orders.1.desc).map (fun d => d.parameters.length) = some 2 ∧ mX5_orders.2.2.1 ≤ 45 := ⟨by decide, by decide, by decide +kernel, by decide⟩
theorem le_X5_orders : Cond.instanceMethod mX5_orders.1 ∈ zTs ∧ Cond.selects mX5_orders.1.cls mX5_orders.1 mX5_orders.1 ∈ zTs := ⟨zTb4 186 (by decide +kernel) rfl, zTb4 187 (by decide +kernel) rfl⟩
theorem li_X5_orders : Cond.initialized mX5_orders.1.cls ∈ zTs := zTb1 1 (by decide +kernel) rfl
theorem lc_X5_toTurn : Cond.code mX5_toTurn.1 mX5_toTurn.2.1 mX5_toTurn.2.2.1 mX5_toTurn.2.2.2 ∈ zTs := zTb4 211 (by decide +kernel) rfl
theorem ld_X5_toTurn : mX5_toTurn.1.cls ≠ "java/lang/invoke/MethodHandle" ∧ mX5_toTurn.1.cls ≠ "java/lang/invoke/VarHandle" ∧ (parseMethodDescriptor mX5_toTurn.1.desc).map (fun d => d.parameters.length) = some 1 ∧ mX5_toTurn.2.2.1 ≤ 45 := ⟨by decide, by decide, by decide +kernel, by decide⟩
theorem le_X5_toTurn : Cond.instanceMethod mX5_toTurn.1 ∈ zTs ∧ Cond.selects mX5_toTurn.1.cls mX5_toTurn.1 mX5_toTurn.1 ∈ zTs := ⟨zTb4 209 (by decide +kernel) rfl, zTb4 210 (by decide +kernel) rfl⟩
theorem li_X5_toTurn : Cond.initialized mX5_toTurn.1.cls ∈ zTs := zTb1 1 (by decide +kernel) rfl
theorem lc_X5_toDrink : Cond.code mX5_toDrink.1 mX5_toDrink.2.1 mX5_toDrink.2.2.1 mX5_toDrink.2.2.2 ∈ zTs := zTb4 224 (by decide +kernel) rfl
theorem ld_X5_toDrink : mX5_toDrink.1.cls ≠ "java/lang/invoke/MethodHandle" ∧ mX5_toDrink.1.cls ≠ "java/lang/invoke/VarHandle" ∧ (parseMethodDescriptor mX5_toDrink.1.desc).map (fun d => d.parameters.length) = some 2 ∧ mX5_toDrink.2.2.1 ≤ 45 := ⟨by decide, by decide, by decide +kernel, by decide⟩
theorem le_X5_toDrink : Cond.instanceMethod mX5_toDrink.1 ∈ zTs ∧ Cond.selects mX5_toDrink.1.cls mX5_toDrink.1 mX5_toDrink.1 ∈ zTs := ⟨zTb4 222 (by decide +kernel) rfl, zTb4 223 (by decide +kernel) rfl⟩
theorem li_X5_toDrink : Cond.initialized mX5_toDrink.1.cls ∈ zTs := zTb1 1 (by decide +kernel) rfl
theorem lc_X5_toPour : Cond.code mX5_toPour.1 mX5_toPour.2.1 mX5_toPour.2.2.1 mX5_toPour.2.2.2 ∈ zTs := zTb4 231 (by decide +kernel) rfl
theorem ld_X5_toPour : mX5_toPour.1.cls ≠ "java/lang/invoke/MethodHandle" ∧ mX5_toPour.1.cls ≠ "java/lang/invoke/VarHandle" ∧ (parseMethodDescriptor mX5_toPour.1.desc).map (fun d => d.parameters.length) = some 1 ∧ mX5_toPour.2.2.1 ≤ 45 := ⟨by decide, by decide, by decide +kernel, by decide⟩
theorem le_X5_toPour : Cond.instanceMethod mX5_toPour.1 ∈ zTs ∧ Cond.selects mX5_toPour.1.cls mX5_toPour.1 mX5_toPour.1 ∈ zTs := ⟨zTb4 229 (by decide +kernel) rfl, zTb4 230 (by decide +kernel) rfl⟩
theorem li_X5_toPour : Cond.initialized mX5_toPour.1.cls ∈ zTs := zTb1 1 (by decide +kernel) rfl
theorem lc_X5_toLay : Cond.code mX5_toLay.1 mX5_toLay.2.1 mX5_toLay.2.2.1 mX5_toLay.2.2.2 ∈ zTs := zTb4 238 (by decide +kernel) rfl
theorem ld_X5_toLay : mX5_toLay.1.cls ≠ "java/lang/invoke/MethodHandle" ∧ mX5_toLay.1.cls ≠ "java/lang/invoke/VarHandle" ∧ (parseMethodDescriptor mX5_toLay.1.desc).map (fun d => d.parameters.length) = some 2 ∧ mX5_toLay.2.2.1 ≤ 45 := ⟨by decide, by decide, by decide +kernel, by decide⟩
theorem le_X5_toLay : Cond.instanceMethod mX5_toLay.1 ∈ zTs ∧ Cond.selects mX5_toLay.1.cls mX5_toLay.1 mX5_toLay.1 ∈ zTs := ⟨zTb4 236 (by decide +kernel) rfl, zTb4 237 (by decide +kernel) rfl⟩
theorem li_X5_toLay : Cond.initialized mX5_toLay.1.cls ∈ zTs := zTb1 1 (by decide +kernel) rfl
theorem lc_X5_better : Cond.code mX5_better.1 mX5_better.2.1 mX5_better.2.2.1 mX5_better.2.2.2 ∈ zTs := zTb5 5 (by decide +kernel) rfl
theorem ld_X5_better : mX5_better.1.cls ≠ "java/lang/invoke/MethodHandle" ∧ mX5_better.1.cls ≠ "java/lang/invoke/VarHandle" ∧ (parseMethodDescriptor mX5_better.1.desc).map (fun d => d.parameters.length) = some 1 ∧ mX5_better.2.2.1 ≤ 45 := ⟨by decide, by decide, by decide +kernel, by decide⟩
theorem le_X5_better : Cond.instanceMethod mX5_better.1 ∈ zTs ∧ Cond.selects mX5_better.1.cls mX5_better.1 mX5_better.1 ∈ zTs := ⟨zTb5 3 (by decide +kernel) rfl, zTb5 4 (by decide +kernel) rfl⟩
theorem li_X5_better : Cond.initialized mX5_better.1.cls ∈ zTs := zTb1 1 (by decide +kernel) rfl
theorem lc_X5_stir : Cond.code mX5_stir.1 mX5_stir.2.1 mX5_stir.2.2.1 mX5_stir.2.2.2 ∈ zTs := zTb5 12 (by decide +kernel) rfl
theorem ld_X5_stir : mX5_stir.1.cls ≠ "java/lang/invoke/MethodHandle" ∧ mX5_stir.1.cls ≠ "java/lang/invoke/VarHandle" ∧ (parseMethodDescriptor mX5_stir.1.desc).map (fun d => d.parameters.length) = some 3 ∧ mX5_stir.2.2.1 ≤ 45 := ⟨by decide, by decide, by decide +kernel, by decide⟩
theorem le_X5_stir : Cond.instanceMethod mX5_stir.1 ∈ zTs ∧ Cond.selects mX5_stir.1.cls mX5_stir.1 mX5_stir.1 ∈ zTs := ⟨zTb5 10 (by decide +kernel) rfl, zTb5 11 (by decide +kernel) rfl⟩
theorem li_X5_stir : Cond.initialized mX5_stir.1.cls ∈ zTs := zTb1 1 (by decide +kernel) rfl
theorem lc_X5_apart : Cond.code mX5_apart.1 mX5_apart.2.1 mX5_apart.2.2.1 mX5_apart.2.2.2 ∈ zTs := zTb5 21 (by decide +kernel) rfl
theorem ld_X5_apart : mX5_apart.1.cls ≠ "java/lang/invoke/MethodHandle" ∧ mX5_apart.1.cls ≠ "java/lang/invoke/VarHandle" ∧ (parseMethodDescriptor mX5_apart.1.desc).map (fun d => d.parameters.length) = some 2 ∧ mX5_apart.2.2.1 ≤ 45 := ⟨by decide, by decide, by decide +kernel, by decide⟩
theorem le_X5_apart : Cond.instanceMethod mX5_apart.1 ∈ zTs ∧ Cond.selects mX5_apart.1.cls mX5_apart.1 mX5_apart.1 ∈ zTs := ⟨zTb5 19 (by decide +kernel) rfl, zTb5 20 (by decide +kernel) rfl⟩
theorem li_X5_apart : Cond.initialized mX5_apart.1.cls ∈ zTs := zTb1 1 (by decide +kernel) rfl
theorem lc_X5_drunk : Cond.code mX5_drunk.1 mX5_drunk.2.1 mX5_drunk.2.2.1 mX5_drunk.2.2.2 ∈ zTs := zTb5 32 (by decide +kernel) rfl
theorem ld_X5_drunk : mX5_drunk.1.cls ≠ "java/lang/invoke/MethodHandle" ∧ mX5_drunk.1.cls ≠ "java/lang/invoke/VarHandle" ∧ (parseMethodDescriptor mX5_drunk.1.desc).map (fun d => d.parameters.length) = some 2 ∧ mX5_drunk.2.2.1 ≤ 45 := ⟨by decide, by decide, by decide +kernel, by decide⟩
theorem le_X5_drunk : Cond.instanceMethod mX5_drunk.1 ∈ zTs ∧ Cond.selects mX5_drunk.1.cls mX5_drunk.1 mX5_drunk.1 ∈ zTs := ⟨zTb5 30 (by decide +kernel) rfl, zTb5 31 (by decide +kernel) rfl⟩
theorem li_X5_drunk : Cond.initialized mX5_drunk.1.cls ∈ zTs := zTb1 1 (by decide +kernel) rfl
theorem lc_X5_thirstiest : Cond.code mX5_thirstiest.1 mX5_thirstiest.2.1 mX5_thirstiest.2.2.1 mX5_thirstiest.2.2.2 ∈ zTs := zTb5 39 (by decide +kernel) rfl
theorem ld_X5_thirstiest : mX5_thirstiest.1.cls ≠ "java/lang/invoke/MethodHandle" ∧ mX5_thirstiest.1.cls ≠ "java/lang/invoke/VarHandle" ∧ (parseMethodDescriptor mX5_thirstiest.1.desc).map (fun d => d.parameters.length) = some 1 ∧ mX5_thirstiest.2.2.1 ≤ 45 := ⟨by decide, by decide, by decide +kernel, by decide⟩
theorem le_X5_thirstiest : Cond.instanceMethod mX5_thirstiest.1 ∈ zTs ∧ Cond.selects mX5_thirstiest.1.cls mX5_thirstiest.1 mX5_thirstiest.1 ∈ zTs := ⟨zTb5 37 (by decide +kernel) rfl, zTb5 38 (by decide +kernel) rfl⟩
theorem li_X5_thirstiest : Cond.initialized mX5_thirstiest.1.cls ∈ zTs := zTb1 1 (by decide +kernel) rfl
theorem lc_X5_streak : Cond.code mX5_streak.1 mX5_streak.2.1 mX5_streak.2.2.1 mX5_streak.2.2.2 ∈ zTs := zTb5 46 (by decide +kernel) rfl
theorem ld_X5_streak : mX5_streak.1.cls ≠ "java/lang/invoke/MethodHandle" ∧ mX5_streak.1.cls ≠ "java/lang/invoke/VarHandle" ∧ (parseMethodDescriptor mX5_streak.1.desc).map (fun d => d.parameters.length) = some 1 ∧ mX5_streak.2.2.1 ≤ 45 := ⟨by decide, by decide, by decide +kernel, by decide⟩
theorem le_X5_streak : Cond.instanceMethod mX5_streak.1 ∈ zTs ∧ Cond.selects mX5_streak.1.cls mX5_streak.1 mX5_streak.1 ∈ zTs := ⟨zTb5 44 (by decide +kernel) rfl, zTb5 45 (by decide +kernel) rfl⟩
theorem li_X5_streak : Cond.initialized mX5_streak.1.cls ∈ zTs := zTb1 1 (by decide +kernel) rfl
theorem lc_X5_come : Cond.code mX5_come.1 mX5_come.2.1 mX5_come.2.2.1 mX5_come.2.2.2 ∈ zTs := zTb5 54 (by decide +kernel) rfl
theorem ld_X5_come : mX5_come.1.cls ≠ "java/lang/invoke/MethodHandle" ∧ mX5_come.1.cls ≠ "java/lang/invoke/VarHandle" ∧ (parseMethodDescriptor mX5_come.1.desc).map (fun d => d.parameters.length) = some 1 ∧ mX5_come.2.2.1 ≤ 45 := ⟨by decide, by decide, by decide +kernel, by decide⟩
theorem le_X5_come : Cond.instanceMethod mX5_come.1 ∈ zTs ∧ Cond.selects mX5_come.1.cls mX5_come.1 mX5_come.1 ∈ zTs := ⟨zTb5 52 (by decide +kernel) rfl, zTb5 53 (by decide +kernel) rfl⟩
theorem li_X5_come : Cond.initialized mX5_come.1.cls ∈ zTs := zTb1 1 (by decide +kernel) rfl
theorem lc_X5_weight : Cond.code mX5_weight.1 mX5_weight.2.1 mX5_weight.2.2.1 mX5_weight.2.2.2 ∈ zTs := zTb5 61 (by decide +kernel) rfl
theorem ld_X5_weight : mX5_weight.1.cls ≠ "java/lang/invoke/MethodHandle" ∧ mX5_weight.1.cls ≠ "java/lang/invoke/VarHandle" ∧ (parseMethodDescriptor mX5_weight.1.desc).map (fun d => d.parameters.length) = some 1 ∧ mX5_weight.2.2.1 ≤ 45 := ⟨by decide, by decide, by decide +kernel, by decide⟩
theorem le_X5_weight : Cond.instanceMethod mX5_weight.1 ∈ zTs ∧ Cond.selects mX5_weight.1.cls mX5_weight.1 mX5_weight.1 ∈ zTs := ⟨zTb5 59 (by decide +kernel) rfl, zTb5 60 (by decide +kernel) rfl⟩
theorem li_X5_weight : Cond.initialized mX5_weight.1.cls ∈ zTs := zTb1 1 (by decide +kernel) rfl
theorem lc_X5_read : Cond.code mX5_read.1 mX5_read.2.1 mX5_read.2.2.1 mX5_read.2.2.2 ∈ zTs := zTb5 68 (by decide +kernel) rfl
theorem ld_X5_read : mX5_read.1.cls ≠ "java/lang/invoke/MethodHandle" ∧ mX5_read.1.cls ≠ "java/lang/invoke/VarHandle" ∧ (parseMethodDescriptor mX5_read.1.desc).map (fun d => d.parameters.length) = some 2 ∧ mX5_read.2.2.1 ≤ 45 := ⟨by decide, by decide, by decide +kernel, by decide⟩
theorem le_X5_read : Cond.instanceMethod mX5_read.1 ∈ zTs ∧ Cond.selects mX5_read.1.cls mX5_read.1 mX5_read.1 ∈ zTs := ⟨zTb5 66 (by decide +kernel) rfl, zTb5 67 (by decide +kernel) rfl⟩
theorem li_X5_read : Cond.initialized mX5_read.1.cls ∈ zTs := zTb1 1 (by decide +kernel) rfl
theorem lc_X5_handed : Cond.code mX5_handed.1 mX5_handed.2.1 mX5_handed.2.2.1 mX5_handed.2.2.2 ∈ zTs := zTb5 75 (by decide +kernel) rfl
theorem ld_X5_handed : mX5_handed.1.cls ≠ "java/lang/invoke/MethodHandle" ∧ mX5_handed.1.cls ≠ "java/lang/invoke/VarHandle" ∧ (parseMethodDescriptor mX5_handed.1.desc).map (fun d => d.parameters.length) = some 1 ∧ mX5_handed.2.2.1 ≤ 45 := ⟨by decide, by decide, by decide +kernel, by decide⟩
theorem le_X5_handed : Cond.instanceMethod mX5_handed.1 ∈ zTs ∧ Cond.selects mX5_handed.1.cls mX5_handed.1 mX5_handed.1 ∈ zTs := ⟨zTb5 73 (by decide +kernel) rfl, zTb5 74 (by decide +kernel) rfl⟩
theorem li_X5_handed : Cond.initialized mX5_handed.1.cls ∈ zTs := zTb1 1 (by decide +kernel) rfl
theorem lc_X5_look : Cond.code mX5_look.1 mX5_look.2.1 mX5_look.2.2.1 mX5_look.2.2.2 ∈ zTs := zTb5 99 (by decide +kernel) rfl
theorem ld_X5_look : mX5_look.1.cls ≠ "java/lang/invoke/MethodHandle" ∧ mX5_look.1.cls ≠ "java/lang/invoke/VarHandle" ∧ (parseMethodDescriptor mX5_look.1.desc).map (fun d => d.parameters.length) = some 1 ∧ mX5_look.2.2.1 ≤ 45 := ⟨by decide, by decide, by decide +kernel, by decide⟩
theorem le_X5_look : Cond.instanceMethod mX5_look.1 ∈ zTs ∧ Cond.selects mX5_look.1.cls mX5_look.1 mX5_look.1 ∈ zTs := ⟨zTb5 97 (by decide +kernel) rfl, zTb5 98 (by decide +kernel) rfl⟩
theorem li_X5_look : Cond.initialized mX5_look.1.cls ∈ zTs := zTb1 1 (by decide +kernel) rfl
theorem lc_X5_game : Cond.code mX5_game.1 mX5_game.2.1 mX5_game.2.2.1 mX5_game.2.2.2 ∈ zTs := zTb5 110 (by decide +kernel) rfl
theorem ld_X5_game : mX5_game.1.cls ≠ "java/lang/invoke/MethodHandle" ∧ mX5_game.1.cls ≠ "java/lang/invoke/VarHandle" ∧ (parseMethodDescriptor mX5_game.1.desc).map (fun d => d.parameters.length) = some 3 ∧ mX5_game.2.2.1 ≤ 45 := ⟨by decide, by decide, by decide +kernel, by decide⟩
theorem le_X5_game : Cond.instanceMethod mX5_game.1 ∈ zTs ∧ Cond.selects mX5_game.1.cls mX5_game.1 mX5_game.1 ∈ zTs := ⟨zTb5 108 (by decide +kernel) rfl, zTb5 109 (by decide +kernel) rfl⟩
theorem li_X5_game : Cond.initialized mX5_game.1.cls ∈ zTs := zTb1 1 (by decide +kernel) rfl
theorem lc_X5_years : Cond.code mX5_years.1 mX5_years.2.1 mX5_years.2.2.1 mX5_years.2.2.2 ∈ zTs := zTb5 126 (by decide +kernel) rfl
theorem ld_X5_years : mX5_years.1.cls ≠ "java/lang/invoke/MethodHandle" ∧ mX5_years.1.cls ≠ "java/lang/invoke/VarHandle" ∧ (parseMethodDescriptor mX5_years.1.desc).map (fun d => d.parameters.length) = some 3 ∧ mX5_years.2.2.1 ≤ 45 := ⟨by decide, by decide, by decide +kernel, by decide⟩
theorem le_X5_years : Cond.instanceMethod mX5_years.1 ∈ zTs ∧ Cond.selects mX5_years.1.cls mX5_years.1 mX5_years.1 ∈ zTs := ⟨zTb5 124 (by decide +kernel) rfl, zTb5 125 (by decide +kernel) rfl⟩
theorem li_X5_years : Cond.initialized mX5_years.1.cls ∈ zTs := zTb1 1 (by decide +kernel) rfl
theorem lc_X5_feed : Cond.code mX5_feed.1 mX5_feed.2.1 mX5_feed.2.2.1 mX5_feed.2.2.2 ∈ zTs := zTb2 83 (by decide +kernel) rfl
theorem ld_X5_feed : mX5_feed.1.cls ≠ "java/lang/invoke/MethodHandle" ∧ mX5_feed.1.cls ≠ "java/lang/invoke/VarHandle" ∧ (parseMethodDescriptor mX5_feed.1.desc).map (fun d => d.parameters.length) = some 5 ∧ mX5_feed.2.2.1 ≤ 45 := ⟨by decide, by decide, by decide +kernel, by decide⟩
theorem le_X5_feed : Cond.instanceMethod mX5_feed.1 ∈ zTs ∧ Cond.selects mX5_feed.1.cls mX5_feed.1 mX5_feed.1 ∈ zTs := ⟨zTb2 81 (by decide +kernel) rfl, zTb2 82 (by decide +kernel) rfl⟩
theorem li_X5_feed : Cond.initialized mX5_feed.1.cls ∈ zTs := zTb1 1 (by decide +kernel) rfl
theorem lc_X6_feed : Cond.code mX6_feed.1 mX6_feed.2.1 mX6_feed.2.2.1 mX6_feed.2.2.2 ∈ zTs := zTb6 119 (by decide +kernel) rfl
theorem ld_X6_feed : mX6_feed.1.cls ≠ "java/lang/invoke/MethodHandle" ∧ mX6_feed.1.cls ≠ "java/lang/invoke/VarHandle" ∧ (parseMethodDescriptor mX6_feed.1.desc).map (fun d => d.parameters.length) = some 5 ∧ mX6_feed.2.2.1 ≤ 45 := ⟨by decide, by decide, by decide +kernel, by decide⟩
theorem le_X6_feed : Cond.instanceMethod mX6_feed.1 ∈ zTs ∧ Cond.selects mX6_feed.1.cls mX6_feed.1 mX6_feed.1 ∈ zTs := ⟨zTb6 117 (by decide +kernel) rfl, zTb6 118 (by decide +kernel) rfl⟩
theorem li_X6_feed : Cond.initialized mX6_feed.1.cls ∈ zTs := zTb1 7 (by decide +kernel) rfl
theorem lc_X6_court : Cond.code mX6_court.1 mX6_court.2.1 mX6_court.2.2.1 mX6_court.2.2.2 ∈ zTs := zTb6 123 (by decide +kernel) rfl
theorem ld_X6_court : mX6_court.1.cls ≠ "java/lang/invoke/MethodHandle" ∧ mX6_court.1.cls ≠ "java/lang/invoke/VarHandle" ∧ (parseMethodDescriptor mX6_court.1.desc).map (fun d => d.parameters.length) = some 1 ∧ mX6_court.2.2.1 ≤ 45 := ⟨by decide, by decide, by decide +kernel, by decide⟩
theorem le_X6_court : Cond.instanceMethod mX6_court.1 ∈ zTs ∧ Cond.selects mX6_court.1.cls mX6_court.1 mX6_court.1 ∈ zTs := ⟨zTb6 121 (by decide +kernel) rfl, zTb6 122 (by decide +kernel) rfl⟩
theorem li_X6_court : Cond.initialized mX6_court.1.cls ∈ zTs := zTb1 7 (by decide +kernel) rfl
theorem lc_X6_thrown : Cond.code mX6_thrown.1 mX6_thrown.2.1 mX6_thrown.2.2.1 mX6_thrown.2.2.2 ∈ zTs := zTb6 115 (by decide +kernel) rfl
theorem ld_X6_thrown : mX6_thrown.1.cls ≠ "java/lang/invoke/MethodHandle" ∧ mX6_thrown.1.cls ≠ "java/lang/invoke/VarHandle" ∧ (parseMethodDescriptor mX6_thrown.1.desc).map (fun d => d.parameters.length) = some 0 ∧ mX6_thrown.2.2.1 ≤ 45 := ⟨by decide, by decide, by decide +kernel, by decide⟩
theorem le_X6_thrown : Cond.instanceMethod mX6_thrown.1 ∈ zTs ∧ Cond.selects mX6_thrown.1.cls mX6_thrown.1 mX6_thrown.1 ∈ zTs := ⟨zTb6 113 (by decide +kernel) rfl, zTb6 114 (by decide +kernel) rfl⟩
theorem li_X6_thrown : Cond.initialized mX6_thrown.1.cls ∈ zTs := zTb1 7 (by decide +kernel) rfl
theorem lc_X5_fault : Cond.code mX5_fault.1 mX5_fault.2.1 mX5_fault.2.2.1 mX5_fault.2.2.2 ∈ zTs := zTb2 91 (by decide +kernel) rfl
theorem ld_X5_fault : mX5_fault.1.cls ≠ "java/lang/invoke/MethodHandle" ∧ mX5_fault.1.cls ≠ "java/lang/invoke/VarHandle" ∧ (parseMethodDescriptor mX5_fault.1.desc).map (fun d => d.parameters.length) = some 0 ∧ mX5_fault.2.2.1 ≤ 45 := ⟨by decide, by decide, by decide +kernel, by decide⟩
theorem le_X5_fault : Cond.instanceMethod mX5_fault.1 ∈ zTs ∧ Cond.selects mX5_fault.1.cls mX5_fault.1 mX5_fault.1 ∈ zTs := ⟨zTb2 89 (by decide +kernel) rfl, zTb2 90 (by decide +kernel) rfl⟩
theorem li_X5_fault : Cond.initialized mX5_fault.1.cls ∈ zTs := zTb1 1 (by decide +kernel) rfl
theorem lc_X6_fault : Cond.code mX6_fault.1 mX6_fault.2.1 mX6_fault.2.2.1 mX6_fault.2.2.2 ∈ zTs := zTb6 238 (by decide +kernel) rfl
theorem ld_X6_fault : mX6_fault.1.cls ≠ "java/lang/invoke/MethodHandle" ∧ mX6_fault.1.cls ≠ "java/lang/invoke/VarHandle" ∧ (parseMethodDescriptor mX6_fault.1.desc).map (fun d => d.parameters.length) = some 0 ∧ mX6_fault.2.2.1 ≤ 45 := ⟨by decide, by decide, by decide +kernel, by decide⟩
theorem le_X6_fault : Cond.instanceMethod mX6_fault.1 ∈ zTs ∧ Cond.selects mX6_fault.1.cls mX6_fault.1 mX6_fault.1 ∈ zTs := ⟨zTb6 236 (by decide +kernel) rfl, zTb6 237 (by decide +kernel) rfl⟩
theorem li_X6_fault : Cond.initialized mX6_fault.1.cls ∈ zTs := zTb1 7 (by decide +kernel) rfl
theorem lc_X6_count : Cond.code mX6_count.1 mX6_count.2.1 mX6_count.2.2.1 mX6_count.2.2.2 ∈ zTs := zTb7 2 (by decide +kernel) rfl
theorem ld_X6_count : mX6_count.1.cls ≠ "java/lang/invoke/MethodHandle" ∧ mX6_count.1.cls ≠ "java/lang/invoke/VarHandle" ∧ (parseMethodDescriptor mX6_count.1.desc).map (fun d => d.parameters.length) = some 1 ∧ mX6_count.2.2.1 ≤ 45 := ⟨by decide, by decide, by decide +kernel, by decide⟩
theorem le_X6_count : Cond.instanceMethod mX6_count.1 ∈ zTs ∧ Cond.selects mX6_count.1.cls mX6_count.1 mX6_count.1 ∈ zTs := ⟨zTb7 0 (by decide +kernel) rfl, zTb7 1 (by decide +kernel) rfl⟩
theorem li_X6_count : Cond.initialized mX6_count.1.cls ∈ zTs := zTb1 7 (by decide +kernel) rfl
theorem lc_X6_leaf : Cond.code mX6_leaf.1 mX6_leaf.2.1 mX6_leaf.2.2.1 mX6_leaf.2.2.2 ∈ zTs := zTb7 30 (by decide +kernel) rfl
theorem ld_X6_leaf : mX6_leaf.1.cls ≠ "java/lang/invoke/MethodHandle" ∧ mX6_leaf.1.cls ≠ "java/lang/invoke/VarHandle" ∧ (parseMethodDescriptor mX6_leaf.1.desc).map (fun d => d.parameters.length) = some 2 ∧ mX6_leaf.2.2.1 ≤ 45 := ⟨by decide, by decide, by decide +kernel, by decide⟩
theorem le_X6_leaf : Cond.instanceMethod mX6_leaf.1 ∈ zTs ∧ Cond.selects mX6_leaf.1.cls mX6_leaf.1 mX6_leaf.1 ∈ zTs := ⟨zTb7 28 (by decide +kernel) rfl, zTb7 29 (by decide +kernel) rfl⟩
theorem li_X6_leaf : Cond.initialized mX6_leaf.1.cls ∈ zTs := zTb1 7 (by decide +kernel) rfl
theorem lc_X6_judge : Cond.code mX6_judge.1 mX6_judge.2.1 mX6_judge.2.2.1 mX6_judge.2.2.2 ∈ zTs := zTb7 41 (by decide +kernel) rfl
theorem ld_X6_judge : mX6_judge.1.cls ≠ "java/lang/invoke/MethodHandle" ∧ mX6_judge.1.cls ≠ "java/lang/invoke/VarHandle" ∧ (parseMethodDescriptor mX6_judge.1.desc).map (fun d => d.parameters.length) = some 2 ∧ mX6_judge.2.2.1 ≤ 45 := ⟨by decide, by decide, by decide +kernel, by decide⟩
theorem le_X6_judge : Cond.instanceMethod mX6_judge.1 ∈ zTs ∧ Cond.selects mX6_judge.1.cls mX6_judge.1 mX6_judge.1 ∈ zTs := ⟨zTb7 39 (by decide +kernel) rfl, zTb7 40 (by decide +kernel) rfl⟩
theorem li_X6_judge : Cond.initialized mX6_judge.1.cls ∈ zTs := zTb1 7 (by decide +kernel) rfl
theorem lc_X6_seat : Cond.code mX6_seat.1 mX6_seat.2.1 mX6_seat.2.2.1 mX6_seat.2.2.2 ∈ zTs := zTb7 57 (by decide +kernel) rfl
theorem ld_X6_seat : mX6_seat.1.cls ≠ "java/lang/invoke/MethodHandle" ∧ mX6_seat.1.cls ≠ "java/lang/invoke/VarHandle" ∧ (parseMethodDescriptor mX6_seat.1.desc).map (fun d => d.parameters.length) = some 1 ∧ mX6_seat.2.2.1 ≤ 45 := ⟨by decide, by decide, by decide +kernel, by decide⟩
theorem le_X6_seat : Cond.instanceMethod mX6_seat.1 ∈ zTs ∧ Cond.selects mX6_seat.1.cls mX6_seat.1 mX6_seat.1 ∈ zTs := ⟨zTb7 55 (by decide +kernel) rfl, zTb7 56 (by decide +kernel) rfl⟩
theorem li_X6_seat : Cond.initialized mX6_seat.1.cls ∈ zTs := zTb1 7 (by decide +kernel) rfl
theorem lc_X6_heap : Cond.code mX6_heap.1 mX6_heap.2.1 mX6_heap.2.2.1 mX6_heap.2.2.2 ∈ zTs := zTb7 61 (by decide +kernel) rfl
theorem ld_X6_heap : mX6_heap.1.cls ≠ "java/lang/invoke/MethodHandle" ∧ mX6_heap.1.cls ≠ "java/lang/invoke/VarHandle" ∧ (parseMethodDescriptor mX6_heap.1.desc).map (fun d => d.parameters.length) = some 1 ∧ mX6_heap.2.2.1 ≤ 45 := ⟨by decide, by decide, by decide +kernel, by decide⟩
theorem le_X6_heap : Cond.instanceMethod mX6_heap.1 ∈ zTs ∧ Cond.selects mX6_heap.1.cls mX6_heap.1 mX6_heap.1 ∈ zTs := ⟨zTb7 59 (by decide +kernel) rfl, zTb7 60 (by decide +kernel) rfl⟩
theorem li_X6_heap : Cond.initialized mX6_heap.1.cls ∈ zTs := zTb1 7 (by decide +kernel) rfl
theorem lc_X5_cases : Cond.code mX5_cases.1 mX5_cases.2.1 mX5_cases.2.2.1 mX5_cases.2.2.2 ∈ zTs := zTb2 95 (by decide +kernel) rfl
theorem ld_X5_cases : mX5_cases.1.cls ≠ "java/lang/invoke/MethodHandle" ∧ mX5_cases.1.cls ≠ "java/lang/invoke/VarHandle" ∧ (parseMethodDescriptor mX5_cases.1.desc).map (fun d => d.parameters.length) = some 1 ∧ mX5_cases.2.2.1 ≤ 45 := ⟨by decide, by decide, by decide +kernel, by decide⟩
theorem le_X5_cases : Cond.instanceMethod mX5_cases.1 ∈ zTs ∧ Cond.selects mX5_cases.1.cls mX5_cases.1 mX5_cases.1 ∈ zTs := ⟨zTb2 93 (by decide +kernel) rfl, zTb2 94 (by decide +kernel) rfl⟩
theorem li_X5_cases : Cond.initialized mX5_cases.1.cls ∈ zTs := zTb1 1 (by decide +kernel) rfl
theorem lc_X6_cases : Cond.code mX6_cases.1 mX6_cases.2.1 mX6_cases.2.2.1 mX6_cases.2.2.2 ∈ zTs := zTb7 73 (by decide +kernel) rfl
theorem ld_X6_cases : mX6_cases.1.cls ≠ "java/lang/invoke/MethodHandle" ∧ mX6_cases.1.cls ≠ "java/lang/invoke/VarHandle" ∧ (parseMethodDescriptor mX6_cases.1.desc).map (fun d => d.parameters.length) = some 1 ∧ mX6_cases.2.2.1 ≤ 45 := ⟨by decide, by decide, by decide +kernel, by decide⟩
theorem le_X6_cases : Cond.instanceMethod mX6_cases.1 ∈ zTs ∧ Cond.selects mX6_cases.1.cls mX6_cases.1 mX6_cases.1 ∈ zTs := ⟨zTb7 71 (by decide +kernel) rfl, zTb7 72 (by decide +kernel) rfl⟩
theorem li_X6_cases : Cond.initialized mX6_cases.1.cls ∈ zTs := zTb1 7 (by decide +kernel) rfl
theorem lc_X6_change : Cond.code mX6_change.1 mX6_change.2.1 mX6_change.2.2.1 mX6_change.2.2.2 ∈ zTs := zTb7 124 (by decide +kernel) rfl
theorem ld_X6_change : mX6_change.1.cls ≠ "java/lang/invoke/MethodHandle" ∧ mX6_change.1.cls ≠ "java/lang/invoke/VarHandle" ∧ (parseMethodDescriptor mX6_change.1.desc).map (fun d => d.parameters.length) = some 2 ∧ mX6_change.2.2.1 ≤ 45 := ⟨by decide, by decide, by decide +kernel, by decide⟩
theorem le_X6_change : Cond.instanceMethod mX6_change.1 ∈ zTs ∧ Cond.selects mX6_change.1.cls mX6_change.1 mX6_change.1 ∈ zTs := ⟨zTb7 122 (by decide +kernel) rfl, zTb7 123 (by decide +kernel) rfl⟩
theorem li_X6_change : Cond.initialized mX6_change.1.cls ∈ zTs := zTb1 7 (by decide +kernel) rfl
theorem lc_X6_hand : Cond.code mX6_hand.1 mX6_hand.2.1 mX6_hand.2.2.1 mX6_hand.2.2.2 ∈ zTs := zTb7 136 (by decide +kernel) rfl
theorem ld_X6_hand : mX6_hand.1.cls ≠ "java/lang/invoke/MethodHandle" ∧ mX6_hand.1.cls ≠ "java/lang/invoke/VarHandle" ∧ (parseMethodDescriptor mX6_hand.1.desc).map (fun d => d.parameters.length) = some 2 ∧ mX6_hand.2.2.1 ≤ 45 := ⟨by decide, by decide, by decide +kernel, by decide⟩
theorem le_X6_hand : Cond.instanceMethod mX6_hand.1 ∈ zTs ∧ Cond.selects mX6_hand.1.cls mX6_hand.1 mX6_hand.1 ∈ zTs := ⟨zTb7 134 (by decide +kernel) rfl, zTb7 135 (by decide +kernel) rfl⟩
theorem li_X6_hand : Cond.initialized mX6_hand.1.cls ∈ zTs := zTb1 7 (by decide +kernel) rfl
theorem lc_X5_pot : Cond.code mX5_pot.1 mX5_pot.2.1 mX5_pot.2.2.1 mX5_pot.2.2.2 ∈ zTs := zTb2 163 (by decide +kernel) rfl
theorem ld_X5_pot : mX5_pot.1.cls ≠ "java/lang/invoke/MethodHandle" ∧ mX5_pot.1.cls ≠ "java/lang/invoke/VarHandle" ∧ (parseMethodDescriptor mX5_pot.1.desc).map (fun d => d.parameters.length) = some 1 ∧ mX5_pot.2.2.1 ≤ 45 := ⟨by decide, by decide, by decide +kernel, by decide⟩
theorem le_X5_pot : Cond.instanceMethod mX5_pot.1 ∈ zTs ∧ Cond.selects mX5_pot.1.cls mX5_pot.1 mX5_pot.1 ∈ zTs := ⟨zTb2 161 (by decide +kernel) rfl, zTb2 162 (by decide +kernel) rfl⟩
theorem li_X5_pot : Cond.initialized mX5_pot.1.cls ∈ zTs := zTb1 1 (by decide +kernel) rfl
theorem lc_X6_pot : Cond.code mX6_pot.1 mX6_pot.2.1 mX6_pot.2.2.1 mX6_pot.2.2.2 ∈ zTs := zTb7 141 (by decide +kernel) rfl
theorem ld_X6_pot : mX6_pot.1.cls ≠ "java/lang/invoke/MethodHandle" ∧ mX6_pot.1.cls ≠ "java/lang/invoke/VarHandle" ∧ (parseMethodDescriptor mX6_pot.1.desc).map (fun d => d.parameters.length) = some 1 ∧ mX6_pot.2.2.1 ≤ 45 := ⟨by decide, by decide, by decide +kernel, by decide⟩
theorem le_X6_pot : Cond.instanceMethod mX6_pot.1 ∈ zTs ∧ Cond.selects mX6_pot.1.cls mX6_pot.1 mX6_pot.1 ∈ zTs := ⟨zTb7 139 (by decide +kernel) rfl, zTb7 140 (by decide +kernel) rfl⟩
theorem li_X6_pot : Cond.initialized mX6_pot.1.cls ∈ zTs := zTb1 7 (by decide +kernel) rfl
theorem lc_X6_put : Cond.code mX6_put.1 mX6_put.2.1 mX6_put.2.2.1 mX6_put.2.2.2 ∈ zTs := zTb7 146 (by decide +kernel) rfl
theorem ld_X6_put : mX6_put.1.cls ≠ "java/lang/invoke/MethodHandle" ∧ mX6_put.1.cls ≠ "java/lang/invoke/VarHandle" ∧ (parseMethodDescriptor mX6_put.1.desc).map (fun d => d.parameters.length) = some 2 ∧ mX6_put.2.2.1 ≤ 45 := ⟨by decide, by decide, by decide +kernel, by decide⟩
theorem le_X6_put : Cond.instanceMethod mX6_put.1 ∈ zTs ∧ Cond.selects mX6_put.1.cls mX6_put.1 mX6_put.1 ∈ zTs := ⟨zTb7 144 (by decide +kernel) rfl, zTb7 145 (by decide +kernel) rfl⟩
theorem li_X6_put : Cond.initialized mX6_put.1.cls ∈ zTs := zTb1 7 (by decide +kernel) rfl
theorem lc_X5_undo : Cond.code mX5_undo.1 mX5_undo.2.1 mX5_undo.2.2.1 mX5_undo.2.2.2 ∈ zTs := zTb2 167 (by decide +kernel) rfl
theorem ld_X5_undo : mX5_undo.1.cls ≠ "java/lang/invoke/MethodHandle" ∧ mX5_undo.1.cls ≠ "java/lang/invoke/VarHandle" ∧ (parseMethodDescriptor mX5_undo.1.desc).map (fun d => d.parameters.length) = some 0 ∧ mX5_undo.2.2.1 ≤ 45 := ⟨by decide, by decide, by decide +kernel, by decide⟩
theorem le_X5_undo : Cond.instanceMethod mX5_undo.1 ∈ zTs ∧ Cond.selects mX5_undo.1.cls mX5_undo.1 mX5_undo.1 ∈ zTs := ⟨zTb2 165 (by decide +kernel) rfl, zTb2 166 (by decide +kernel) rfl⟩
theorem li_X5_undo : Cond.initialized mX5_undo.1.cls ∈ zTs := zTb1 1 (by decide +kernel) rfl
theorem lc_X6_undo : Cond.code mX6_undo.1 mX6_undo.2.1 mX6_undo.2.2.1 mX6_undo.2.2.2 ∈ zTs := zTb7 150 (by decide +kernel) rfl
theorem ld_X6_undo : mX6_undo.1.cls ≠ "java/lang/invoke/MethodHandle" ∧ mX6_undo.1.cls ≠ "java/lang/invoke/VarHandle" ∧ (parseMethodDescriptor mX6_undo.1.desc).map (fun d => d.parameters.length) = some 0 ∧ mX6_undo.2.2.1 ≤ 45 := ⟨by decide, by decide, by decide +kernel, by decide⟩
theorem le_X6_undo : Cond.instanceMethod mX6_undo.1 ∈ zTs ∧ Cond.selects mX6_undo.1.cls mX6_undo.1 mX6_undo.1 ∈ zTs := ⟨zTb7 148 (by decide +kernel) rfl, zTb7 149 (by decide +kernel) rfl⟩
theorem li_X6_undo : Cond.initialized mX6_undo.1.cls ∈ zTs := zTb1 7 (by decide +kernel) rfl
theorem lc_X6_verdict : Cond.code mX6_verdict.1 mX6_verdict.2.1 mX6_verdict.2.2.1 mX6_verdict.2.2.2 ∈ zTs := zTb7 158 (by decide +kernel) rfl
theorem ld_X6_verdict : mX6_verdict.1.cls ≠ "java/lang/invoke/MethodHandle" ∧ mX6_verdict.1.cls ≠ "java/lang/invoke/VarHandle" ∧ (parseMethodDescriptor mX6_verdict.1.desc).map (fun d => d.parameters.length) = some 2 ∧ mX6_verdict.2.2.1 ≤ 45 := ⟨by decide, by decide, by decide +kernel, by decide⟩
theorem le_X6_verdict : Cond.instanceMethod mX6_verdict.1 ∈ zTs ∧ Cond.selects mX6_verdict.1.cls mX6_verdict.1 mX6_verdict.1 ∈ zTs := ⟨zTb7 156 (by decide +kernel) rfl, zTb7 157 (by decide +kernel) rfl⟩
theorem li_X6_verdict : Cond.initialized mX6_verdict.1.cls ∈ zTs := zTb1 7 (by decide +kernel) rfl
theorem lc_X6_lies : Cond.code mX6_lies.1 mX6_lies.2.1 mX6_lies.2.2.1 mX6_lies.2.2.2 ∈ zTs := zTb7 163 (by decide +kernel) rfl
theorem ld_X6_lies : mX6_lies.1.cls ≠ "java/lang/invoke/MethodHandle" ∧ mX6_lies.1.cls ≠ "java/lang/invoke/VarHandle" ∧ (parseMethodDescriptor mX6_lies.1.desc).map (fun d => d.parameters.length) = some 2 ∧ mX6_lies.2.2.1 ≤ 45 := ⟨by decide, by decide, by decide +kernel, by decide⟩
theorem le_X6_lies : Cond.instanceMethod mX6_lies.1 ∈ zTs ∧ Cond.selects mX6_lies.1.cls mX6_lies.1 mX6_lies.1 ∈ zTs := ⟨zTb7 161 (by decide +kernel) rfl, zTb7 162 (by decide +kernel) rfl⟩
theorem li_X6_lies : Cond.initialized mX6_lies.1.cls ∈ zTs := zTb1 7 (by decide +kernel) rfl
theorem lc_X6_often : Cond.code mX6_often.1 mX6_often.2.1 mX6_often.2.2.1 mX6_often.2.2.2 ∈ zTs := zTb7 167 (by decide +kernel) rfl
theorem ld_X6_often : mX6_often.1.cls ≠ "java/lang/invoke/MethodHandle" ∧ mX6_often.1.cls ≠ "java/lang/invoke/VarHandle" ∧ (parseMethodDescriptor mX6_often.1.desc).map (fun d => d.parameters.length) = some 2 ∧ mX6_often.2.2.1 ≤ 45 := ⟨by decide, by decide, by decide +kernel, by decide⟩
theorem le_X6_often : Cond.instanceMethod mX6_often.1 ∈ zTs ∧ Cond.selects mX6_often.1.cls mX6_often.1 mX6_often.1 ∈ zTs := ⟨zTb7 165 (by decide +kernel) rfl, zTb7 166 (by decide +kernel) rfl⟩
theorem li_X6_often : Cond.initialized mX6_often.1.cls ∈ zTs := zTb1 7 (by decide +kernel) rfl
theorem lc_X6_first : Cond.code mX6_first.1 mX6_first.2.1 mX6_first.2.2.1 mX6_first.2.2.2 ∈ zTs := zTb7 187 (by decide +kernel) rfl
theorem ld_X6_first : mX6_first.1.cls ≠ "java/lang/invoke/MethodHandle" ∧ mX6_first.1.cls ≠ "java/lang/invoke/VarHandle" ∧ (parseMethodDescriptor mX6_first.1.desc).map (fun d => d.parameters.length) = some 1 ∧ mX6_first.2.2.1 ≤ 45 := ⟨by decide, by decide, by decide +kernel, by decide⟩
theorem le_X6_first : Cond.instanceMethod mX6_first.1 ∈ zTs ∧ Cond.selects mX6_first.1.cls mX6_first.1 mX6_first.1 ∈ zTs := ⟨zTb7 185 (by decide +kernel) rfl, zTb7 186 (by decide +kernel) rfl⟩
theorem li_X6_first : Cond.initialized mX6_first.1.cls ∈ zTs := zTb1 7 (by decide +kernel) rfl
theorem lc_X5_round : Cond.code mX5_round.1 mX5_round.2.1 mX5_round.2.2.1 mX5_round.2.2.2 ∈ zTs := zTb2 179 (by decide +kernel) rfl
theorem ld_X5_round : mX5_round.1.cls ≠ "java/lang/invoke/MethodHandle" ∧ mX5_round.1.cls ≠ "java/lang/invoke/VarHandle" ∧ (parseMethodDescriptor mX5_round.1.desc).map (fun d => d.parameters.length) = some 0 ∧ mX5_round.2.2.1 ≤ 45 := ⟨by decide, by decide, by decide +kernel, by decide⟩
theorem le_X5_round : Cond.instanceMethod mX5_round.1 ∈ zTs ∧ Cond.selects mX5_round.1.cls mX5_round.1 mX5_round.1 ∈ zTs := ⟨zTb2 177 (by decide +kernel) rfl, zTb2 178 (by decide +kernel) rfl⟩
theorem li_X5_round : Cond.initialized mX5_round.1.cls ∈ zTs := zTb1 1 (by decide +kernel) rfl
theorem lc_X6_round : Cond.code mX6_round.1 mX6_round.2.1 mX6_round.2.2.1 mX6_round.2.2.2 ∈ zTs := zTb7 191 (by decide +kernel) rfl
theorem ld_X6_round : mX6_round.1.cls ≠ "java/lang/invoke/MethodHandle" ∧ mX6_round.1.cls ≠ "java/lang/invoke/VarHandle" ∧ (parseMethodDescriptor mX6_round.1.desc).map (fun d => d.parameters.length) = some 0 ∧ mX6_round.2.2.1 ≤ 45 := ⟨by decide, by decide, by decide +kernel, by decide⟩
theorem le_X6_round : Cond.instanceMethod mX6_round.1 ∈ zTs ∧ Cond.selects mX6_round.1.cls mX6_round.1 mX6_round.1 ∈ zTs := ⟨zTb7 189 (by decide +kernel) rfl, zTb7 190 (by decide +kernel) rfl⟩
theorem li_X6_round : Cond.initialized mX6_round.1.cls ∈ zTs := zTb1 7 (by decide +kernel) rfl
theorem lc_X6_pleased : Cond.code mX6_pleased.1 mX6_pleased.2.1 mX6_pleased.2.2.1 mX6_pleased.2.2.2 ∈ zTs := zTb7 195 (by decide +kernel) rfl
theorem ld_X6_pleased : mX6_pleased.1.cls ≠ "java/lang/invoke/MethodHandle" ∧ mX6_pleased.1.cls ≠ "java/lang/invoke/VarHandle" ∧ (parseMethodDescriptor mX6_pleased.1.desc).map (fun d => d.parameters.length) = some 1 ∧ mX6_pleased.2.2.1 ≤ 45 := ⟨by decide, by decide, by decide +kernel, by decide⟩
theorem le_X6_pleased : Cond.instanceMethod mX6_pleased.1 ∈ zTs ∧ Cond.selects mX6_pleased.1.cls mX6_pleased.1 mX6_pleased.1 ∈ zTs := ⟨zTb7 193 (by decide +kernel) rfl, zTb7 194 (by decide +kernel) rfl⟩
theorem li_X6_pleased : Cond.initialized mX6_pleased.1.cls ∈ zTs := zTb1 7 (by decide +kernel) rfl
theorem lc_X6_swept : Cond.code mX6_swept.1 mX6_swept.2.1 mX6_swept.2.2.1 mX6_swept.2.2.2 ∈ zTs := zTb7 199 (by decide +kernel) rfl
theorem ld_X6_swept : mX6_swept.1.cls ≠ "java/lang/invoke/MethodHandle" ∧ mX6_swept.1.cls ≠ "java/lang/invoke/VarHandle" ∧ (parseMethodDescriptor mX6_swept.1.desc).map (fun d => d.parameters.length) = some 1 ∧ mX6_swept.2.2.1 ≤ 45 := ⟨by decide, by decide, by decide +kernel, by decide⟩
theorem le_X6_swept : Cond.instanceMethod mX6_swept.1 ∈ zTs ∧ Cond.selects mX6_swept.1.cls mX6_swept.1 mX6_swept.1 ∈ zTs := ⟨zTb7 197 (by decide +kernel) rfl, zTb7 198 (by decide +kernel) rfl⟩
theorem li_X6_swept : Cond.initialized mX6_swept.1.cls ∈ zTs := zTb1 7 (by decide +kernel) rfl
theorem lc_X6_orders : Cond.code mX6_orders.1 mX6_orders.2.1 mX6_orders.2.2.1 mX6_orders.2.2.2 ∈ zTs := zTb7 211 (by decide +kernel) rfl
theorem ld_X6_orders : mX6_orders.1.cls ≠ "java/lang/invoke/MethodHandle" ∧ mX6_orders.1.cls ≠ "java/lang/invoke/VarHandle" ∧ (parseMethodDescriptor mX6_orders.1.desc).map (fun d => d.parameters.length) = some 2 ∧ mX6_orders.2.2.1 ≤ 45 := ⟨by decide, by decide, by decide +kernel, by decide⟩
theorem le_X6_orders : Cond.instanceMethod mX6_orders.1 ∈ zTs ∧ Cond.selects mX6_orders.1.cls mX6_orders.1 mX6_orders.1 ∈ zTs := ⟨zTb7 209 (by decide +kernel) rfl, zTb7 210 (by decide +kernel) rfl⟩
theorem li_X6_orders : Cond.initialized mX6_orders.1.cls ∈ zTs := zTb1 7 (by decide +kernel) rfl
theorem lc_X5_decisive : Cond.code mX5_decisive.1 mX5_decisive.2.1 mX5_decisive.2.2.1 mX5_decisive.2.2.2 ∈ zTs := zTb2 195 (by decide +kernel) rfl
theorem ld_X5_decisive : mX5_decisive.1.cls ≠ "java/lang/invoke/MethodHandle" ∧ mX5_decisive.1.cls ≠ "java/lang/invoke/VarHandle" ∧ (parseMethodDescriptor mX5_decisive.1.desc).map (fun d => d.parameters.length) = some 0 ∧ mX5_decisive.2.2.1 ≤ 45 := ⟨by decide, by decide, by decide +kernel, by decide⟩
theorem le_X5_decisive : Cond.instanceMethod mX5_decisive.1 ∈ zTs ∧ Cond.selects mX5_decisive.1.cls mX5_decisive.1 mX5_decisive.1 ∈ zTs := ⟨zTb2 193 (by decide +kernel) rfl, zTb2 194 (by decide +kernel) rfl⟩
theorem li_X5_decisive : Cond.initialized mX5_decisive.1.cls ∈ zTs := zTb1 1 (by decide +kernel) rfl
theorem lc_X6_decisive : Cond.code mX6_decisive.1 mX6_decisive.2.1 mX6_decisive.2.2.1 mX6_decisive.2.2.2 ∈ zTs := zTb7 230 (by decide +kernel) rfl
theorem ld_X6_decisive : mX6_decisive.1.cls ≠ "java/lang/invoke/MethodHandle" ∧ mX6_decisive.1.cls ≠ "java/lang/invoke/VarHandle" ∧ (parseMethodDescriptor mX6_decisive.1.desc).map (fun d => d.parameters.length) = some 0 ∧ mX6_decisive.2.2.1 ≤ 45 := ⟨by decide, by decide, by decide +kernel, by decide⟩
theorem le_X6_decisive : Cond.instanceMethod mX6_decisive.1 ∈ zTs ∧ Cond.selects mX6_decisive.1.cls mX6_decisive.1 mX6_decisive.1 ∈ zTs := ⟨zTb7 228 (by decide +kernel) rfl, zTb7 229 (by decide +kernel) rfl⟩
theorem li_X6_decisive : Cond.initialized mX6_decisive.1.cls ∈ zTs := zTb1 7 (by decide +kernel) rfl
theorem lc_X6_toTurn : Cond.code mX6_toTurn.1 mX6_toTurn.2.1 mX6_toTurn.2.2.1 mX6_toTurn.2.2.2 ∈ zTs := zTb7 238 (by decide +kernel) rfl
theorem ld_X6_toTurn : mX6_toTurn.1.cls ≠ "java/lang/invoke/MethodHandle" ∧ mX6_toTurn.1.cls ≠ "java/lang/invoke/VarHandle" ∧ (parseMethodDescriptor mX6_toTurn.1.desc).map (fun d => d.parameters.length) = some 1 ∧ mX6_toTurn.2.2.1 ≤ 45 := ⟨by decide, by decide, by decide +kernel, by decide⟩
theorem le_X6_toTurn : Cond.instanceMethod mX6_toTurn.1 ∈ zTs ∧ Cond.selects mX6_toTurn.1.cls mX6_toTurn.1 mX6_toTurn.1 ∈ zTs := ⟨zTb7 236 (by decide +kernel) rfl, zTb7 237 (by decide +kernel) rfl⟩
theorem li_X6_toTurn : Cond.initialized mX6_toTurn.1.cls ∈ zTs := zTb1 7 (by decide +kernel) rfl
theorem lc_X6_toDrink : Cond.code mX6_toDrink.1 mX6_toDrink.2.1 mX6_toDrink.2.2.1 mX6_toDrink.2.2.2 ∈ zTs := zTb8 2 (by decide +kernel) rfl
theorem ld_X6_toDrink : mX6_toDrink.1.cls ≠ "java/lang/invoke/MethodHandle" ∧ mX6_toDrink.1.cls ≠ "java/lang/invoke/VarHandle" ∧ (parseMethodDescriptor mX6_toDrink.1.desc).map (fun d => d.parameters.length) = some 2 ∧ mX6_toDrink.2.2.1 ≤ 45 := ⟨by decide, by decide, by decide +kernel, by decide⟩
theorem le_X6_toDrink : Cond.instanceMethod mX6_toDrink.1 ∈ zTs ∧ Cond.selects mX6_toDrink.1.cls mX6_toDrink.1 mX6_toDrink.1 ∈ zTs := ⟨zTb8 0 (by decide +kernel) rfl, zTb8 1 (by decide +kernel) rfl⟩
theorem li_X6_toDrink : Cond.initialized mX6_toDrink.1.cls ∈ zTs := zTb1 7 (by decide +kernel) rfl
theorem lc_X6_toPour : Cond.code mX6_toPour.1 mX6_toPour.2.1 mX6_toPour.2.2.1 mX6_toPour.2.2.2 ∈ zTs := zTb8 6 (by decide +kernel) rfl
theorem ld_X6_toPour : mX6_toPour.1.cls ≠ "java/lang/invoke/MethodHandle" ∧ mX6_toPour.1.cls ≠ "java/lang/invoke/VarHandle" ∧ (parseMethodDescriptor mX6_toPour.1.desc).map (fun d => d.parameters.length) = some 1 ∧ mX6_toPour.2.2.1 ≤ 45 := ⟨by decide, by decide, by decide +kernel, by decide⟩
theorem le_X6_toPour : Cond.instanceMethod mX6_toPour.1 ∈ zTs ∧ Cond.selects mX6_toPour.1.cls mX6_toPour.1 mX6_toPour.1 ∈ zTs := ⟨zTb8 4 (by decide +kernel) rfl, zTb8 5 (by decide +kernel) rfl⟩
theorem li_X6_toPour : Cond.initialized mX6_toPour.1.cls ∈ zTs := zTb1 7 (by decide +kernel) rfl
theorem lc_X6_toLay : Cond.code mX6_toLay.1 mX6_toLay.2.1 mX6_toLay.2.2.1 mX6_toLay.2.2.2 ∈ zTs := zTb8 10 (by decide +kernel) rfl
theorem ld_X6_toLay : mX6_toLay.1.cls ≠ "java/lang/invoke/MethodHandle" ∧ mX6_toLay.1.cls ≠ "java/lang/invoke/VarHandle" ∧ (parseMethodDescriptor mX6_toLay.1.desc).map (fun d => d.parameters.length) = some 2 ∧ mX6_toLay.2.2.1 ≤ 45 := ⟨by decide, by decide, by decide +kernel, by decide⟩
theorem le_X6_toLay : Cond.instanceMethod mX6_toLay.1 ∈ zTs ∧ Cond.selects mX6_toLay.1.cls mX6_toLay.1 mX6_toLay.1 ∈ zTs := ⟨zTb8 8 (by decide +kernel) rfl, zTb8 9 (by decide +kernel) rfl⟩
theorem li_X6_toLay : Cond.initialized mX6_toLay.1.cls ∈ zTs := zTb1 7 (by decide +kernel) rfl
theorem lc_X6_better : Cond.code mX6_better.1 mX6_better.2.1 mX6_better.2.2.1 mX6_better.2.2.2 ∈ zTs := zTb8 14 (by decide +kernel) rfl
theorem ld_X6_better : mX6_better.1.cls ≠ "java/lang/invoke/MethodHandle" ∧ mX6_better.1.cls ≠ "java/lang/invoke/VarHandle" ∧ (parseMethodDescriptor mX6_better.1.desc).map (fun d => d.parameters.length) = some 1 ∧ mX6_better.2.2.1 ≤ 45 := ⟨by decide, by decide, by decide +kernel, by decide⟩
theorem le_X6_better : Cond.instanceMethod mX6_better.1 ∈ zTs ∧ Cond.selects mX6_better.1.cls mX6_better.1 mX6_better.1 ∈ zTs := ⟨zTb8 12 (by decide +kernel) rfl, zTb8 13 (by decide +kernel) rfl⟩
theorem li_X6_better : Cond.initialized mX6_better.1.cls ∈ zTs := zTb1 7 (by decide +kernel) rfl
theorem lc_X6_stir : Cond.code mX6_stir.1 mX6_stir.2.1 mX6_stir.2.2.1 mX6_stir.2.2.2 ∈ zTs := zTb8 18 (by decide +kernel) rfl
theorem ld_X6_stir : mX6_stir.1.cls ≠ "java/lang/invoke/MethodHandle" ∧ mX6_stir.1.cls ≠ "java/lang/invoke/VarHandle" ∧ (parseMethodDescriptor mX6_stir.1.desc).map (fun d => d.parameters.length) = some 3 ∧ mX6_stir.2.2.1 ≤ 45 := ⟨by decide, by decide, by decide +kernel, by decide⟩
theorem le_X6_stir : Cond.instanceMethod mX6_stir.1 ∈ zTs ∧ Cond.selects mX6_stir.1.cls mX6_stir.1 mX6_stir.1 ∈ zTs := ⟨zTb8 16 (by decide +kernel) rfl, zTb8 17 (by decide +kernel) rfl⟩
theorem li_X6_stir : Cond.initialized mX6_stir.1.cls ∈ zTs := zTb1 7 (by decide +kernel) rfl
theorem lc_X6_apart : Cond.code mX6_apart.1 mX6_apart.2.1 mX6_apart.2.2.1 mX6_apart.2.2.2 ∈ zTs := zTb8 22 (by decide +kernel) rfl
theorem ld_X6_apart : mX6_apart.1.cls ≠ "java/lang/invoke/MethodHandle" ∧ mX6_apart.1.cls ≠ "java/lang/invoke/VarHandle" ∧ (parseMethodDescriptor mX6_apart.1.desc).map (fun d => d.parameters.length) = some 2 ∧ mX6_apart.2.2.1 ≤ 45 := ⟨by decide, by decide, by decide +kernel, by decide⟩
theorem le_X6_apart : Cond.instanceMethod mX6_apart.1 ∈ zTs ∧ Cond.selects mX6_apart.1.cls mX6_apart.1 mX6_apart.1 ∈ zTs := ⟨zTb8 20 (by decide +kernel) rfl, zTb8 21 (by decide +kernel) rfl⟩
theorem li_X6_apart : Cond.initialized mX6_apart.1.cls ∈ zTs := zTb1 7 (by decide +kernel) rfl
theorem lc_X6_drunk : Cond.code mX6_drunk.1 mX6_drunk.2.1 mX6_drunk.2.2.1 mX6_drunk.2.2.2 ∈ zTs := zTb7 203 (by decide +kernel) rfl
theorem ld_X6_drunk : mX6_drunk.1.cls ≠ "java/lang/invoke/MethodHandle" ∧ mX6_drunk.1.cls ≠ "java/lang/invoke/VarHandle" ∧ (parseMethodDescriptor mX6_drunk.1.desc).map (fun d => d.parameters.length) = some 2 ∧ mX6_drunk.2.2.1 ≤ 45 := ⟨by decide, by decide, by decide +kernel, by decide⟩
theorem le_X6_drunk : Cond.instanceMethod mX6_drunk.1 ∈ zTs ∧ Cond.selects mX6_drunk.1.cls mX6_drunk.1 mX6_drunk.1 ∈ zTs := ⟨zTb7 201 (by decide +kernel) rfl, zTb7 202 (by decide +kernel) rfl⟩
theorem li_X6_drunk : Cond.initialized mX6_drunk.1.cls ∈ zTs := zTb1 7 (by decide +kernel) rfl
theorem lc_X6_thirstiest : Cond.code mX6_thirstiest.1 mX6_thirstiest.2.1 mX6_thirstiest.2.2.1 mX6_thirstiest.2.2.2 ∈ zTs := zTb7 207 (by decide +kernel) rfl
theorem ld_X6_thirstiest : mX6_thirstiest.1.cls ≠ "java/lang/invoke/MethodHandle" ∧ mX6_thirstiest.1.cls ≠ "java/lang/invoke/VarHandle" ∧ (parseMethodDescriptor mX6_thirstiest.1.desc).map (fun d => d.parameters.length) = some 1 ∧ mX6_thirstiest.2.2.1 ≤ 45 := ⟨by decide, by decide, by decide +kernel, by decide⟩
theorem le_X6_thirstiest : Cond.instanceMethod mX6_thirstiest.1 ∈ zTs ∧ Cond.selects mX6_thirstiest.1.cls mX6_thirstiest.1 mX6_thirstiest.1 ∈ zTs := ⟨zTb7 205 (by decide +kernel) rfl, zTb7 206 (by decide +kernel) rfl⟩
theorem li_X6_thirstiest : Cond.initialized mX6_thirstiest.1.cls ∈ zTs := zTb1 7 (by decide +kernel) rfl
theorem lc_X6_streak : Cond.code mX6_streak.1 mX6_streak.2.1 mX6_streak.2.2.1 mX6_streak.2.2.2 ∈ zTs := zTb7 179 (by decide +kernel) rfl
theorem ld_X6_streak : mX6_streak.1.cls ≠ "java/lang/invoke/MethodHandle" ∧ mX6_streak.1.cls ≠ "java/lang/invoke/VarHandle" ∧ (parseMethodDescriptor mX6_streak.1.desc).map (fun d => d.parameters.length) = some 1 ∧ mX6_streak.2.2.1 ≤ 45 := ⟨by decide, by decide, by decide +kernel, by decide⟩
theorem le_X6_streak : Cond.instanceMethod mX6_streak.1 ∈ zTs ∧ Cond.selects mX6_streak.1.cls mX6_streak.1 mX6_streak.1 ∈ zTs := ⟨zTb7 177 (by decide +kernel) rfl, zTb7 178 (by decide +kernel) rfl⟩
theorem li_X6_streak : Cond.initialized mX6_streak.1.cls ∈ zTs := zTb1 7 (by decide +kernel) rfl
theorem lc_X6_come : Cond.code mX6_come.1 mX6_come.2.1 mX6_come.2.2.1 mX6_come.2.2.2 ∈ zTs := zTb7 183 (by decide +kernel) rfl
theorem ld_X6_come : mX6_come.1.cls ≠ "java/lang/invoke/MethodHandle" ∧ mX6_come.1.cls ≠ "java/lang/invoke/VarHandle" ∧ (parseMethodDescriptor mX6_come.1.desc).map (fun d => d.parameters.length) = some 1 ∧ mX6_come.2.2.1 ≤ 45 := ⟨by decide, by decide, by decide +kernel, by decide⟩
theorem le_X6_come : Cond.instanceMethod mX6_come.1 ∈ zTs ∧ Cond.selects mX6_come.1.cls mX6_come.1 mX6_come.1 ∈ zTs := ⟨zTb7 181 (by decide +kernel) rfl, zTb7 182 (by decide +kernel) rfl⟩
theorem li_X6_come : Cond.initialized mX6_come.1.cls ∈ zTs := zTb1 7 (by decide +kernel) rfl
theorem lc_X6_weight : Cond.code mX6_weight.1 mX6_weight.2.1 mX6_weight.2.2.1 mX6_weight.2.2.2 ∈ zTs := zTb7 69 (by decide +kernel) rfl
theorem ld_X6_weight : mX6_weight.1.cls ≠ "java/lang/invoke/MethodHandle" ∧ mX6_weight.1.cls ≠ "java/lang/invoke/VarHandle" ∧ (parseMethodDescriptor mX6_weight.1.desc).map (fun d => d.parameters.length) = some 1 ∧ mX6_weight.2.2.1 ≤ 45 := ⟨by decide, by decide, by decide +kernel, by decide⟩
theorem le_X6_weight : Cond.instanceMethod mX6_weight.1 ∈ zTs ∧ Cond.selects mX6_weight.1.cls mX6_weight.1 mX6_weight.1 ∈ zTs := ⟨zTb7 67 (by decide +kernel) rfl, zTb7 68 (by decide +kernel) rfl⟩
theorem li_X6_weight : Cond.initialized mX6_weight.1.cls ∈ zTs := zTb1 7 (by decide +kernel) rfl
theorem lc_X6_read : Cond.code mX6_read.1 mX6_read.2.1 mX6_read.2.2.1 mX6_read.2.2.2 ∈ zTs := zTb8 27 (by decide +kernel) rfl
theorem ld_X6_read : mX6_read.1.cls ≠ "java/lang/invoke/MethodHandle" ∧ mX6_read.1.cls ≠ "java/lang/invoke/VarHandle" ∧ (parseMethodDescriptor mX6_read.1.desc).map (fun d => d.parameters.length) = some 2 ∧ mX6_read.2.2.1 ≤ 45 := ⟨by decide, by decide, by decide +kernel, by decide⟩
theorem le_X6_read : Cond.instanceMethod mX6_read.1 ∈ zTs ∧ Cond.selects mX6_read.1.cls mX6_read.1 mX6_read.1 ∈ zTs := ⟨zTb8 25 (by decide +kernel) rfl, zTb8 26 (by decide +kernel) rfl⟩
theorem li_X6_read : Cond.initialized mX6_read.1.cls ∈ zTs := zTb1 7 (by decide +kernel) rfl
theorem lc_X6_handed : Cond.code mX6_handed.1 mX6_handed.2.1 mX6_handed.2.2.1 mX6_handed.2.2.2 ∈ zTs := zTb8 31 (by decide +kernel) rfl
theorem ld_X6_handed : mX6_handed.1.cls ≠ "java/lang/invoke/MethodHandle" ∧ mX6_handed.1.cls ≠ "java/lang/invoke/VarHandle" ∧ (parseMethodDescriptor mX6_handed.1.desc).map (fun d => d.parameters.length) = some 1 ∧ mX6_handed.2.2.1 ≤ 45 := ⟨by decide, by decide, by decide +kernel, by decide⟩
theorem le_X6_handed : Cond.instanceMethod mX6_handed.1 ∈ zTs ∧ Cond.selects mX6_handed.1.cls mX6_handed.1 mX6_handed.1 ∈ zTs := ⟨zTb8 29 (by decide +kernel) rfl, zTb8 30 (by decide +kernel) rfl⟩
theorem li_X6_handed : Cond.initialized mX6_handed.1.cls ∈ zTs := zTb1 7 (by decide +kernel) rfl
theorem lc_X6_look : Cond.code mX6_look.1 mX6_look.2.1 mX6_look.2.2.1 mX6_look.2.2.2 ∈ zTs := zTb8 44 (by decide +kernel) rfl
theorem ld_X6_look : mX6_look.1.cls ≠ "java/lang/invoke/MethodHandle" ∧ mX6_look.1.cls ≠ "java/lang/invoke/VarHandle" ∧ (parseMethodDescriptor mX6_look.1.desc).map (fun d => d.parameters.length) = some 1 ∧ mX6_look.2.2.1 ≤ 45 := ⟨by decide, by decide, by decide +kernel, by decide⟩
theorem le_X6_look : Cond.instanceMethod mX6_look.1 ∈ zTs ∧ Cond.selects mX6_look.1.cls mX6_look.1 mX6_look.1 ∈ zTs := ⟨zTb8 42 (by decide +kernel) rfl, zTb8 43 (by decide +kernel) rfl⟩
theorem li_X6_look : Cond.initialized mX6_look.1.cls ∈ zTs := zTb1 7 (by decide +kernel) rfl
theorem lc_X5_forget : Cond.code mX5_forget.1 mX5_forget.2.1 mX5_forget.2.2.1 mX5_forget.2.2.2 ∈ zTs := zTb2 207 (by decide +kernel) rfl
theorem ld_X5_forget : mX5_forget.1.cls ≠ "java/lang/invoke/MethodHandle" ∧ mX5_forget.1.cls ≠ "java/lang/invoke/VarHandle" ∧ (parseMethodDescriptor mX5_forget.1.desc).map (fun d => d.parameters.length) = some 0 ∧ mX5_forget.2.2.1 ≤ 45 := ⟨by decide, by decide, by decide +kernel, by decide⟩
theorem le_X5_forget : Cond.instanceMethod mX5_forget.1 ∈ zTs ∧ Cond.selects mX5_forget.1.cls mX5_forget.1 mX5_forget.1 ∈ zTs := ⟨zTb2 205 (by decide +kernel) rfl, zTb2 206 (by decide +kernel) rfl⟩
theorem li_X5_forget : Cond.initialized mX5_forget.1.cls ∈ zTs := zTb1 1 (by decide +kernel) rfl
theorem lc_X6_forget : Cond.code mX6_forget.1 mX6_forget.2.1 mX6_forget.2.2.1 mX6_forget.2.2.2 ∈ zTs := zTb8 52 (by decide +kernel) rfl
theorem ld_X6_forget : mX6_forget.1.cls ≠ "java/lang/invoke/MethodHandle" ∧ mX6_forget.1.cls ≠ "java/lang/invoke/VarHandle" ∧ (parseMethodDescriptor mX6_forget.1.desc).map (fun d => d.parameters.length) = some 0 ∧ mX6_forget.2.2.1 ≤ 45 := ⟨by decide, by decide, by decide +kernel, by decide⟩
theorem le_X6_forget : Cond.instanceMethod mX6_forget.1 ∈ zTs ∧ Cond.selects mX6_forget.1.cls mX6_forget.1 mX6_forget.1 ∈ zTs := ⟨zTb8 50 (by decide +kernel) rfl, zTb8 51 (by decide +kernel) rfl⟩
theorem li_X6_forget : Cond.initialized mX6_forget.1.cls ∈ zTs := zTb1 7 (by decide +kernel) rfl
theorem lc_X6_game : Cond.code mX6_game.1 mX6_game.2.1 mX6_game.2.2.1 mX6_game.2.2.2 ∈ zTs := zTb8 56 (by decide +kernel) rfl
theorem ld_X6_game : mX6_game.1.cls ≠ "java/lang/invoke/MethodHandle" ∧ mX6_game.1.cls ≠ "java/lang/invoke/VarHandle" ∧ (parseMethodDescriptor mX6_game.1.desc).map (fun d => d.parameters.length) = some 3 ∧ mX6_game.2.2.1 ≤ 45 := ⟨by decide, by decide, by decide +kernel, by decide⟩
theorem le_X6_game : Cond.instanceMethod mX6_game.1 ∈ zTs ∧ Cond.selects mX6_game.1.cls mX6_game.1 mX6_game.1 ∈ zTs := ⟨zTb8 54 (by decide +kernel) rfl, zTb8 55 (by decide +kernel) rfl⟩
theorem li_X6_game : Cond.initialized mX6_game.1.cls ∈ zTs := zTb1 7 (by decide +kernel) rfl
theorem lc_X6_years : Cond.code mX6_years.1 mX6_years.2.1 mX6_years.2.2.1 mX6_years.2.2.2 ∈ zTs := zTb8 64 (by decide +kernel) rfl
theorem ld_X6_years : mX6_years.1.cls ≠ "java/lang/invoke/MethodHandle" ∧ mX6_years.1.cls ≠ "java/lang/invoke/VarHandle" ∧ (parseMethodDescriptor mX6_years.1.desc).map (fun d => d.parameters.length) = some 3 ∧ mX6_years.2.2.1 ≤ 45 := ⟨by decide, by decide, by decide +kernel, by decide⟩
theorem le_X6_years : Cond.instanceMethod mX6_years.1 ∈ zTs ∧ Cond.selects mX6_years.1.cls mX6_years.1 mX6_years.1 ∈ zTs := ⟨zTb8 62 (by decide +kernel) rfl, zTb8 63 (by decide +kernel) rfl⟩
theorem li_X6_years : Cond.initialized mX6_years.1.cls ∈ zTs := zTb1 7 (by decide +kernel) rfl
theorem lc_X5_image : Cond.code mX5_image.1 mX5_image.2.1 mX5_image.2.2.1 mX5_image.2.2.2 ∈ zTs := zTb2 211 (by decide +kernel) rfl
theorem ld_X5_image : mX5_image.1.cls ≠ "java/lang/invoke/MethodHandle" ∧ mX5_image.1.cls ≠ "java/lang/invoke/VarHandle" ∧ (parseMethodDescriptor mX5_image.1.desc).map (fun d => d.parameters.length) = some 0 ∧ mX5_image.2.2.1 ≤ 45 := ⟨by decide, by decide, by decide +kernel, by decide⟩
theorem le_X5_image : Cond.instanceMethod mX5_image.1 ∈ zTs ∧ Cond.selects mX5_image.1.cls mX5_image.1 mX5_image.1 ∈ zTs := ⟨zTb2 209 (by decide +kernel) rfl, zTb2 210 (by decide +kernel) rfl⟩
theorem li_X5_image : Cond.initialized mX5_image.1.cls ∈ zTs := zTb1 1 (by decide +kernel) rfl
theorem lc_X6_image : Cond.code mX6_image.1 mX6_image.2.1 mX6_image.2.2.1 mX6_image.2.2.2 ∈ zTs := zTb8 77 (by decide +kernel) rfl
theorem ld_X6_image : mX6_image.1.cls ≠ "java/lang/invoke/MethodHandle" ∧ mX6_image.1.cls ≠ "java/lang/invoke/VarHandle" ∧ (parseMethodDescriptor mX6_image.1.desc).map (fun d => d.parameters.length) = some 0 ∧ mX6_image.2.2.1 ≤ 45 := ⟨by decide, by decide, by decide +kernel, by decide⟩
theorem le_X6_image : Cond.instanceMethod mX6_image.1 ∈ zTs ∧ Cond.selects mX6_image.1.cls mX6_image.1 mX6_image.1 ∈ zTs := ⟨zTb8 75 (by decide +kernel) rfl, zTb8 76 (by decide +kernel) rfl⟩
theorem li_X6_image : Cond.initialized mX6_image.1.cls ∈ zTs := zTb1 7 (by decide +kernel) rfl
theorem lc_X5_restore : Cond.code mX5_restore.1 mX5_restore.2.1 mX5_restore.2.2.1 mX5_restore.2.2.2 ∈ zTs := zTb2 221 (by decide +kernel) rfl
theorem ld_X5_restore : mX5_restore.1.cls ≠ "java/lang/invoke/MethodHandle" ∧ mX5_restore.1.cls ≠ "java/lang/invoke/VarHandle" ∧ (parseMethodDescriptor mX5_restore.1.desc).map (fun d => d.parameters.length) = some 0 ∧ mX5_restore.2.2.1 ≤ 45 := ⟨by decide, by decide, by decide +kernel, by decide⟩
theorem le_X5_restore : Cond.instanceMethod mX5_restore.1 ∈ zTs ∧ Cond.selects mX5_restore.1.cls mX5_restore.1 mX5_restore.1 ∈ zTs := ⟨zTb2 219 (by decide +kernel) rfl, zTb2 220 (by decide +kernel) rfl⟩
theorem li_X5_restore : Cond.initialized mX5_restore.1.cls ∈ zTs := zTb1 1 (by decide +kernel) rfl
theorem lc_X6_restore : Cond.code mX6_restore.1 mX6_restore.2.1 mX6_restore.2.2.1 mX6_restore.2.2.2 ∈ zTs := zTb8 81 (by decide +kernel) rfl
theorem ld_X6_restore : mX6_restore.1.cls ≠ "java/lang/invoke/MethodHandle" ∧ mX6_restore.1.cls ≠ "java/lang/invoke/VarHandle" ∧ (parseMethodDescriptor mX6_restore.1.desc).map (fun d => d.parameters.length) = some 0 ∧ mX6_restore.2.2.1 ≤ 45 := ⟨by decide, by decide, by decide +kernel, by decide⟩
theorem le_X6_restore : Cond.instanceMethod mX6_restore.1 ∈ zTs ∧ Cond.selects mX6_restore.1.cls mX6_restore.1 mX6_restore.1 ∈ zTs := ⟨zTb8 79 (by decide +kernel) rfl, zTb8 80 (by decide +kernel) rfl⟩
theorem li_X6_restore : Cond.initialized mX6_restore.1.cls ∈ zTs := zTb1 7 (by decide +kernel) rfl
theorem lk0_22 : zLS RX0 22 2 mJ9_min_7cf53 := ⟨⟨lc_J9_min_7cf53, li_J9_min_7cf53, zTb3 61 (by decide +kernel) rfl⟩, ld_J9_min_7cf53, le_J9_min_7cf53⟩
theorem lk0_28 : zLS RX0 28 2 mJ9_max_7cf53 := ⟨⟨lc_J9_max_7cf53, li_J9_max_7cf53, zTb3 62 (by decide +kernel) rfl⟩, ld_J9_max_7cf53, le_J9_max_7cf53⟩
theorem lk0_35 : zLV RX0 35 0 mX1_clear := ⟨⟨lc_X1_clear, li_X1_clear, zTb3 63 (by decide +kernel) rfl⟩, ld_X1_clear, le_X1_clear⟩
theorem lk0_44 : zLV RX0 44 0 mX0_advance := ⟨⟨lc_X0_advance, li_X0_advance, zTb3 67 (by decide +kernel) rfl⟩, ld_X0_advance, le_X0_advance⟩
theorem lk0_50 : zLV RX0 50 0 mX0_takeLine := ⟨⟨lc_X0_takeLine, li_X0_takeLine, zTb3 88 (by decide +kernel) rfl⟩, ld_X0_takeLine, le_X0_takeLine⟩
theorem lk0_54 : zLV RX0 54 1 mX0_takeSign := ⟨⟨lc_X0_takeSign, li_X0_takeSign, zTb3 206 (by decide +kernel) rfl⟩, ld_X0_takeSign, le_X0_takeSign⟩
theorem lk0_61 : zLV RX0 61 1 mX0_byteAt := ⟨⟨lc_X0_byteAt, li_X0_byteAt, zTb3 71 (by decide +kernel) rfl⟩, ld_X0_byteAt, le_X0_byteAt⟩
theorem lk0_65 : zLS RX0 65 1 mX0_isBlank := ⟨⟨lc_X0_isBlank, li_X0_isBlank, zTb3 75 (by decide +kernel) rfl⟩, ld_X0_isBlank, le_X0_isBlank⟩
theorem lk0_71 : zLS RX0 71 1 mX0_isLetter := ⟨⟨lc_X0_isLetter, li_X0_isLetter, zTb3 78 (by decide +kernel) rfl⟩, ld_X0_isLetter, le_X0_isLetter⟩
theorem lk0_74 : zLS RX0 74 1 mX0_isDigit := ⟨⟨lc_X0_isDigit, li_X0_isDigit, zTb3 81 (by decide +kernel) rfl⟩, ld_X0_isDigit, le_X0_isDigit⟩
theorem lk0_77 : zLV RX0 77 0 mX0_isTooLong := ⟨⟨lc_X0_isTooLong, li_X0_isTooLong, zTb3 84 (by decide +kernel) rfl⟩, ld_X0_isTooLong, le_X0_isTooLong⟩
theorem lk0_89 : zLV RX0 89 1 mX0_isSign := ⟨⟨lc_X0_isSign, li_X0_isSign, zTb3 177 (by decide +kernel) rfl⟩, ld_X0_isSign, le_X0_isSign⟩
theorem lk0_92 : zLV RX0 92 1 mX0_refuse := ⟨⟨lc_X0_refuse, li_X0_refuse, zTb3 149 (by decide +kernel) rfl⟩, ld_X0_refuse, le_X0_refuse⟩
theorem lk0_100 : zLV RX0 100 1 mX0_isWord := ⟨⟨lc_X0_isWord, li_X0_isWord, zTb3 93 (by decide +kernel) rfl⟩, ld_X0_isWord, le_X0_isWord⟩
theorem lk0_104 : zLV RX0 104 0 mX0_takeLeaf := ⟨⟨lc_X0_takeLeaf, li_X0_takeLeaf, zTb3 145 (by decide +kernel) rfl⟩, ld_X0_takeLeaf, le_X0_takeLeaf⟩
theorem lk0_111 : zLV RX0 111 1 mX0_takeJudge := ⟨⟨lc_X0_takeJudge, li_X0_takeJudge, zTb3 159 (by decide +kernel) rfl⟩, ld_X0_takeJudge, le_X0_takeJudge⟩
theorem lk0_117 : zLV RX0 117 0 mX0_takePot := ⟨⟨lc_X0_takePot, li_X0_takePot, zTb3 164 (by decide +kernel) rfl⟩, ld_X0_takePot, le_X0_takePot⟩
theorem lk0_122 : zLV RX0 122 1 mX0_takeRule := ⟨⟨lc_X0_takeRule, li_X0_takeRule, zTb3 169 (by decide +kernel) rfl⟩, ld_X0_takeRule, le_X0_takeRule⟩
theorem lk0_130 : zLV RX0 130 2 mX0_takeNumber := ⟨⟨lc_X0_takeNumber, li_X0_takeNumber, zTb3 153 (by decide +kernel) rfl⟩, ld_X0_takeNumber, le_X0_takeNumber⟩
theorem lk0_174 : zLV RX0 174 1 mX0_takeExpr := ⟨⟨lc_X0_takeExpr, li_X0_takeExpr, zTb3 173 (by decide +kernel) rfl⟩, ld_X0_takeExpr, le_X0_takeExpr⟩
theorem lk0_180 : zLV RX0 180 1 mX0_takeAnd := ⟨⟨lc_X0_takeAnd, li_X0_takeAnd, zTb3 181 (by decide +kernel) rfl⟩, ld_X0_takeAnd, le_X0_takeAnd⟩
theorem lk0_185 : zLV RX0 185 1 mX1_addStep := ⟨⟨lc_X1_addStep, li_X1_addStep, zTb3 221 (by decide +kernel) rfl⟩, ld_X1_addStep, le_X1_addStep⟩
theorem lk0_189 : zLV RX0 189 1 mX0_takeNot := ⟨⟨lc_X0_takeNot, li_X0_takeNot, zTb3 185 (by decide +kernel) rfl⟩, ld_X0_takeNot, le_X0_takeNot⟩
theorem lk0_196 : zLV RX0 196 1 mX0_takeTest := ⟨⟨lc_X0_takeTest, li_X0_takeTest, zTb3 190 (by decide +kernel) rfl⟩, ld_X0_takeTest, le_X0_takeTest⟩
theorem lk0_199 : zLV RX0 199 1 mX0_takeSum := ⟨⟨lc_X0_takeSum, li_X0_takeSum, zTb3 194 (by decide +kernel) rfl⟩, ld_X0_takeSum, le_X0_takeSum⟩
theorem lk0_202 : zLV RX0 202 1 mX0_takeProduct := ⟨⟨lc_X0_takeProduct, li_X0_takeProduct, zTb3 198 (by decide +kernel) rfl⟩, ld_X0_takeProduct, le_X0_takeProduct⟩
theorem lk0_205 : zLV RX0 205 1 mX0_takePart := ⟨⟨lc_X0_takePart, li_X0_takePart, zTb3 202 (by decide +kernel) rfl⟩, ld_X0_takePart, le_X0_takePart⟩
theorem lk0_208 : zLV RX0 208 0 mX0_valueNamed := ⟨⟨lc_X0_valueNamed, li_X0_valueNamed, zTb3 210 (by decide +kernel) rfl⟩, ld_X0_valueNamed, le_X0_valueNamed⟩
theorem lk2_49 : zLV RX2 49 2 mX2_seatOf := ⟨⟨lc_X2_seatOf, li_X2_seatOf, zTb4 97 (by decide +kernel) rfl⟩, ld_X2_seatOf, le_X2_seatOf⟩
theorem lk2_59 : zLV RX2 59 4 mX2_sipOf := ⟨⟨lc_X2_sipOf, li_X2_sipOf, zTb2 111 (by decide +kernel) rfl⟩, ld_X2_sipOf, le_X2_sipOf⟩
theorem lk2_63 : zLV RX2 63 2 mX2_stirBy := ⟨⟨lc_X2_stirBy, li_X2_stirBy, zTb2 138 (by decide +kernel) rfl⟩, ld_X2_stirBy, le_X2_stirBy⟩
theorem lk2_74 : zLV RX2 74 1 mX2_blow := ⟨⟨lc_X2_blow, li_X2_blow, zTb2 151 (by decide +kernel) rfl⟩, ld_X2_blow, le_X2_blow⟩
theorem lk2_78 : zLV RX2 78 2 mX4_reading := ⟨⟨lc_X4_reading, li_X4_reading, zTb2 155 (by decide +kernel) rfl⟩, ld_X4_reading, le_X4_reading⟩
theorem lk2_84 : zLS RX2 84 2 mJ9_floorMod_7cf53 := ⟨⟨lc_J9_floorMod_7cf53, li_J9_floorMod_7cf53, zTb2 148 (by decide +kernel) rfl⟩, ld_J9_floorMod_7cf53, le_J9_floorMod_7cf53⟩
theorem lk2_92 : zLV RX2 92 5 mX4_valueOf := ⟨⟨lc_X4_valueOf, li_X4_valueOf, zTb2 115 (by decide +kernel) rfl⟩, ld_X4_valueOf, le_X4_valueOf⟩
theorem lk2_96 : zLS RX2 96 2 mJ9_min_7cf53 := ⟨⟨lc_J9_min_7cf53, li_J9_min_7cf53, zTb2 136 (by decide +kernel) rfl⟩, ld_J9_min_7cf53, le_J9_min_7cf53⟩
theorem lk2_99 : zLS RX2 99 2 mJ9_max_7cf53 := ⟨⟨lc_J9_max_7cf53, li_J9_max_7cf53, zTb2 137 (by decide +kernel) rfl⟩, ld_J9_max_7cf53, le_J9_max_7cf53⟩
theorem lk2_102 : zLS RX2 102 2 mX2_push := ⟨⟨lc_X2_push, li_X2_push, zTb2 142 (by decide +kernel) rfl⟩, ld_X2_push, le_X2_push⟩
theorem lk2_108 : zLS RX2 108 3 mX2_stirred := ⟨⟨lc_X2_stirred, li_X2_stirred, zTb2 145 (by decide +kernel) rfl⟩, ld_X2_stirred, le_X2_stirred⟩
theorem lk3_31 : zLV RX3 31 1 mX2_open := ⟨⟨lc_X2_open, li_X2_open, zTb3 236 (by decide +kernel) rfl⟩, ld_X2_open, le_X2_open⟩
theorem lk3_42 : zLV RX3 42 1 mX2_copyFrom := ⟨⟨lc_X2_copyFrom, li_X2_copyFrom, zTb2 216 (by decide +kernel) rfl⟩, ld_X2_copyFrom, le_X2_copyFrom⟩
theorem lk3_55 : zLV RX3 55 2 mX2_save := ⟨⟨lc_X2_save, li_X2_save, zTb2 100 (by decide +kernel) rfl⟩, ld_X2_save, le_X2_save⟩
theorem lk3_59 : zLV RX3 59 2 mX2_load := ⟨⟨lc_X2_load, li_X2_load, zTb2 172 (by decide +kernel) rfl⟩, ld_X2_load, le_X2_load⟩
theorem lk3_62 : zLS RX3 62 2 mJ9_max_7cf53 := ⟨⟨lc_J9_max_7cf53, li_J9_max_7cf53, zTb5 84 (by decide +kernel) rfl⟩, ld_J9_max_7cf53, le_J9_max_7cf53⟩
theorem lk4_38 : zLS RX4 38 2 mJ9_max_7cf53 := ⟨⟨lc_J9_max_7cf53, li_J9_max_7cf53, zTb2 126 (by decide +kernel) rfl⟩, ld_J9_max_7cf53, le_J9_max_7cf53⟩
theorem lk4_44 : zLS RX4 44 2 mJ9_min_7cf53 := ⟨⟨lc_J9_min_7cf53, li_J9_min_7cf53, zTb2 123 (by decide +kernel) rfl⟩, ld_J9_min_7cf53, le_J9_min_7cf53⟩
theorem lk4_51 : zLV RX4 51 5 mX4_valueOf := ⟨⟨lc_X4_valueOf, li_X4_valueOf, zTb2 159 (by decide +kernel) rfl⟩, ld_X4_valueOf, le_X4_valueOf⟩
theorem lk4_55 : zLV RX4 55 2 mX4_survey := ⟨⟨lc_X4_survey, li_X4_survey, zTb2 119 (by decide +kernel) rfl⟩, ld_X4_survey, le_X4_survey⟩
theorem lk4_71 : zLV RX4 71 4 mX4_named := ⟨⟨lc_X4_named, li_X4_named, zTb2 129 (by decide +kernel) rfl⟩, ld_X4_named, le_X4_named⟩
theorem lk4_75 : zLS RX4 75 3 mX4_joined := ⟨⟨lc_X4_joined, li_X4_joined, zTb2 133 (by decide +kernel) rfl⟩, ld_X4_joined, le_X4_joined⟩
theorem lk5_73 : zLV RX5 73 1 mX5_append := ⟨⟨lc_X5_append, li_X5_append, zTb2 84 (by decide +kernel) rfl⟩, ld_X5_append, le_X5_append⟩
theorem lk5_84 : zLV RX5 84 2 mX0_takeDown := ⟨⟨lc_X0_takeDown, li_X0_takeDown, zTb3 57 (by decide +kernel) rfl⟩, ld_X0_takeDown, le_X0_takeDown⟩
theorem lk5_94 : zLV RX5 94 1 mX0_handOver := ⟨⟨lc_X0_handOver, li_X0_handOver, zTb3 228 (by decide +kernel) rfl⟩, ld_X0_handOver, le_X0_handOver⟩
theorem lk5_102 : zLV RX5 102 1 mX3_open := ⟨⟨lc_X3_open, li_X3_open, zTb3 232 (by decide +kernel) rfl⟩, ld_X3_open, le_X3_open⟩
theorem lk5_124 : zLV RX5 124 1 mX5_surveyed := ⟨⟨lc_X5_surveyed, li_X5_surveyed, zTb4 8 (by decide +kernel) rfl⟩, ld_X5_surveyed, le_X5_surveyed⟩
theorem lk5_139 : zLV RX5 139 2 mX4_survey := ⟨⟨lc_X4_survey, li_X4_survey, zTb4 12 (by decide +kernel) rfl⟩, ld_X4_survey, le_X4_survey⟩
theorem lk5_152 : zLV RX5 152 0 mX4_widestGap := ⟨⟨lc_X4_widestGap, li_X4_widestGap, zTb4 13 (by decide +kernel) rfl⟩, ld_X4_widestGap, le_X4_widestGap⟩
theorem lk5_156 : zLV RX5 156 1 mX5_needLeaf := ⟨⟨lc_X5_needLeaf, li_X5_needLeaf, zTb4 40 (by decide +kernel) rfl⟩, ld_X5_needLeaf, le_X5_needLeaf⟩
theorem lk5_167 : zLV RX5 167 1 mX5_needJudge := ⟨⟨lc_X5_needJudge, li_X5_needJudge, zTb4 53 (by decide +kernel) rfl⟩, ld_X5_needJudge, le_X5_needJudge⟩
theorem lk5_179 : zLV RX5 179 2 mX2_seatOf := ⟨⟨lc_X2_seatOf, li_X2_seatOf, zTb4 58 (by decide +kernel) rfl⟩, ld_X2_seatOf, le_X2_seatOf⟩
theorem lk5_187 : zLV RX5 187 1 mX5_partyOf := ⟨⟨lc_X5_partyOf, li_X5_partyOf, zTb4 62 (by decide +kernel) rfl⟩, ld_X5_partyOf, le_X5_partyOf⟩
theorem lk5_197 : zLS RX5 197 1 mX5_needPlace := ⟨⟨lc_X5_needPlace, li_X5_needPlace, zTb4 82 (by decide +kernel) rfl⟩, ld_X5_needPlace, le_X5_needPlace⟩
theorem lk5_200 : zLS RX5 200 1 mJ9_abs_0f7a4 := ⟨⟨lc_J9_abs_0f7a4, li_J9_abs_0f7a4, zTb5 22 (by decide +kernel) rfl⟩, ld_J9_abs_0f7a4, le_J9_abs_0f7a4⟩
theorem lk5_205 : zLS RX5 205 2 mJ9_min_7cf53 := ⟨⟨lc_J9_min_7cf53, li_J9_min_7cf53, zTb5 25 (by decide +kernel) rfl⟩, ld_J9_min_7cf53, le_J9_min_7cf53⟩
theorem lk5_208 : zLS RX5 208 3 mX5_needWithin := ⟨⟨lc_X5_needWithin, li_X5_needWithin, zTb4 123 (by decide +kernel) rfl⟩, ld_X5_needWithin, le_X5_needWithin⟩
theorem lk5_212 : zLS RX5 212 2 mX2_push := ⟨⟨lc_X2_push, li_X2_push, zTb5 13 (by decide +kernel) rfl⟩, ld_X2_push, le_X2_push⟩
theorem lk5_215 : zLS RX5 215 3 mX2_stirred := ⟨⟨lc_X2_stirred, li_X2_stirred, zTb5 14 (by decide +kernel) rfl⟩, ld_X2_stirred, le_X2_stirred⟩
theorem lk5_231 : zLV RX5 231 0 mX3_keepAct := ⟨⟨lc_X3_keepAct, li_X3_keepAct, zTb2 96 (by decide +kernel) rfl⟩, ld_X3_keepAct, le_X3_keepAct⟩
theorem lk5_234 : zLV RX5 234 2 mX2_hear := ⟨⟨lc_X2_hear, li_X2_hear, zTb2 107 (by decide +kernel) rfl⟩, ld_X2_hear, le_X2_hear⟩
theorem lk5_238 : zLV RX5 238 3 mX2_swap := ⟨⟨lc_X2_swap, li_X2_swap, zTb4 93 (by decide +kernel) rfl⟩, ld_X2_swap, le_X2_swap⟩
theorem lk5_241 : zLV RX5 241 0 mX3_takeBackAct := ⟨⟨lc_X3_takeBackAct, li_X3_takeBackAct, zTb2 168 (by decide +kernel) rfl⟩, ld_X3_takeBackAct, le_X3_takeBackAct⟩
theorem lk5_244 : zLV RX5 244 1 mX2_copyFrom := ⟨⟨lc_X2_copyFrom, li_X2_copyFrom, zTb2 184 (by decide +kernel) rfl⟩, ld_X2_copyFrom, le_X2_copyFrom⟩
theorem lk5_248 : zLV RX5 248 0 mX5_startTrial := ⟨⟨lc_X5_startTrial, li_X5_startTrial, zTb2 180 (by decide +kernel) rfl⟩, ld_X5_startTrial, le_X5_startTrial⟩
theorem lk5_251 : zLS RX5 251 2 mX5_needWhat := ⟨⟨lc_X5_needWhat, li_X5_needWhat, zTb4 119 (by decide +kernel) rfl⟩, ld_X5_needWhat, le_X5_needWhat⟩
theorem lk5_255 : zLV RX5 255 1 mX5_goAhead := ⟨⟨lc_X5_goAhead, li_X5_goAhead, zTb4 127 (by decide +kernel) rfl⟩, ld_X5_goAhead, le_X5_goAhead⟩
theorem lk5_261 : zLS RX5 261 1 mX5_needVerdict := ⟨⟨lc_X5_needVerdict, li_X5_needVerdict, zTb4 145 (by decide +kernel) rfl⟩, ld_X5_needVerdict, le_X5_needVerdict⟩
theorem lk5_264 : zLV RX5 264 0 mX5_nextVerdict := ⟨⟨lc_X5_nextVerdict, li_X5_nextVerdict, zTb2 196 (by decide +kernel) rfl⟩, ld_X5_nextVerdict, le_X5_nextVerdict⟩
theorem lk5_267 : zLV RX5 267 2 mX2_liesLike := ⟨⟨lc_X2_liesLike, li_X2_liesLike, zTb2 188 (by decide +kernel) rfl⟩, ld_X2_liesLike, le_X2_liesLike⟩
theorem lk5_271 : zLV RX5 271 0 mX5_clearTally := ⟨⟨lc_X5_clearTally, li_X5_clearTally, zTb4 163 (by decide +kernel) rfl⟩, ld_X5_clearTally, le_X5_clearTally⟩
theorem lk5_274 : zLV RX5 274 1 mX5_mostInTally := ⟨⟨lc_X5_mostInTally, li_X5_mostInTally, zTb4 167 (by decide +kernel) rfl⟩, ld_X5_mostInTally, le_X5_mostInTally⟩
theorem lk5_280 : zLV RX5 280 1 mX2_placesWithLeaves := ⟨⟨lc_X2_placesWithLeaves, li_X2_placesWithLeaves, zTb4 178 (by decide +kernel) rfl⟩, ld_X2_placesWithLeaves, le_X2_placesWithLeaves⟩
theorem lk5_283 : zLS RX5 283 2 mJ9_max_7cf53 := ⟨⟨lc_J9_max_7cf53, li_J9_max_7cf53, zTb5 47 (by decide +kernel) rfl⟩, ld_J9_max_7cf53, le_J9_max_7cf53⟩
theorem lk5_286 : zLV RX5 286 0 mX5_startOrder := ⟨⟨lc_X5_startOrder, li_X5_startOrder, zTb4 189 (by decide +kernel) rfl⟩, ld_X5_startOrder, le_X5_startOrder⟩
theorem lk5_289 : zLV RX5 289 0 mX5_verdictByOrder := ⟨⟨lc_X5_verdictByOrder, li_X5_verdictByOrder, zTb4 193 (by decide +kernel) rfl⟩, ld_X5_verdictByOrder, le_X5_verdictByOrder⟩
theorem lk5_292 : zLV RX5 292 1 mX5_nextOrder := ⟨⟨lc_X5_nextOrder, li_X5_nextOrder, zTb4 197 (by decide +kernel) rfl⟩, ld_X5_nextOrder, le_X5_nextOrder⟩
theorem lk5_296 : zLV RX5 296 2 mX5_swapInOrder := ⟨⟨lc_X5_swapInOrder, li_X5_swapInOrder, zTb4 201 (by decide +kernel) rfl⟩, ld_X5_swapInOrder, le_X5_swapInOrder⟩
theorem lk5_299 : zLV RX5 299 1 mX5_verdictIfTurned := ⟨⟨lc_X5_verdictIfTurned, li_X5_verdictIfTurned, zTb2 200 (by decide +kernel) rfl⟩, ld_X5_verdictIfTurned, le_X5_verdictIfTurned⟩
theorem lk5_302 : zLS RX5 302 1 mJ6_bitCount_0f7a4 := ⟨⟨lc_J6_bitCount_0f7a4, li_J6_bitCount_0f7a4, zTb4 212 (by decide +kernel) rfl⟩, ld_J6_bitCount_0f7a4, le_J6_bitCount_0f7a4⟩
theorem lk5_314 : zLV RX5 314 0 mX5_trialIsAsRead := ⟨⟨lc_X5_trialIsAsRead, li_X5_trialIsAsRead, zTb5 76 (by decide +kernel) rfl⟩, ld_X5_trialIsAsRead, le_X5_trialIsAsRead⟩
theorem lk5_318 : zLV RX5 318 2 mX5_isHanded := ⟨⟨lc_X5_isHanded, li_X5_isHanded, zTb5 89 (by decide +kernel) rfl⟩, ld_X5_isHanded, le_X5_isHanded⟩
theorem lk5_322 : zLV RX5 322 0 mX3_lastReadCase := ⟨⟨lc_X3_lastReadCase, li_X3_lastReadCase, zTb5 80 (by decide +kernel) rfl⟩, ld_X3_lastReadCase, le_X3_lastReadCase⟩
theorem lk5_325 : zLV RX5 325 2 mX3_couldBe := ⟨⟨lc_X3_couldBe, li_X3_couldBe, zTb5 85 (by decide +kernel) rfl⟩, ld_X3_couldBe, le_X3_couldBe⟩
theorem lk5_328 : zLV RX5 328 2 mX5_noteIfAsRead := ⟨⟨lc_X5_noteIfAsRead, li_X5_noteIfAsRead, zTb5 100 (by decide +kernel) rfl⟩, ld_X5_noteIfAsRead, le_X5_noteIfAsRead⟩
theorem lk5_333 : zLV RX5 333 3 mX5_rests := ⟨⟨lc_X5_rests, li_X5_rests, zTb5 112 (by decide +kernel) rfl⟩, ld_X5_rests, le_X5_rests⟩
theorem lk5_337 : zLV RX5 337 3 mX5_gain := ⟨⟨lc_X5_gain, li_X5_gain, zTb5 116 (by decide +kernel) rfl⟩, ld_X5_gain, le_X5_gain⟩
theorem lk5_343 : zLV RX5 343 0 mX5_befall := ⟨⟨lc_X5_befall, li_X5_befall, zTb5 127 (by decide +kernel) rfl⟩, ld_X5_befall, le_X5_befall⟩
theorem lk5_346 : zLV RX5 346 1 mX5_draw := ⟨⟨lc_X5_draw, li_X5_draw, zTb5 131 (by decide +kernel) rfl⟩, ld_X5_draw, le_X5_draw⟩
theorem lk5_350 : zLV RX5 350 1 mX3_copyFrom := ⟨⟨lc_X3_copyFrom, li_X3_copyFrom, zTb2 212 (by decide +kernel) rfl⟩, ld_X3_copyFrom, le_X3_copyFrom⟩
theorem lk6_160 : zLS RX6 160 3 mX6_isIn := ⟨⟨lc_X6_isIn, li_X6_isIn, zTb7 35 (by decide +kernel) rfl⟩, ld_X6_isIn, le_X6_isIn⟩
theorem lk6_177 : zLV RX6 177 1 mX6_byteAt := ⟨⟨lc_X6_byteAt, li_X6_byteAt, zTb6 132 (by decide +kernel) rfl⟩, ld_X6_byteAt, le_X6_byteAt⟩
theorem lk6_187 : zLS RX6 187 1 mX6_isLetter := ⟨⟨lc_X6_isLetter, li_X6_isLetter, zTb6 136 (by decide +kernel) rfl⟩, ld_X6_isLetter, le_X6_isLetter⟩
theorem lk6_191 : zLS RX6 191 1 mX6_isDigit := ⟨⟨lc_X6_isDigit, li_X6_isDigit, zTb6 139 (by decide +kernel) rfl⟩, ld_X6_isDigit, le_X6_isDigit⟩
theorem lk6_198 : zLS RX6 198 2 mJ9_min_7cf53 := ⟨⟨lc_J9_min_7cf53, li_J9_min_7cf53, zTb6 143 (by decide +kernel) rfl⟩, ld_J9_min_7cf53, le_J9_min_7cf53⟩
theorem lk6_204 : zLS RX6 204 1 mX6_isMark := ⟨⟨lc_X6_isMark, li_X6_isMark, zTb6 144 (by decide +kernel) rfl⟩, ld_X6_isMark, le_X6_isMark⟩
theorem lk6_224 : zLV RX6 224 1 mX6_is := ⟨⟨lc_X6_is, li_X6_is, zTb6 155 (by decide +kernel) rfl⟩, ld_X6_is, le_X6_is⟩
theorem lk6_228 : zLV RX6 228 1 mX6_isMarked := ⟨⟨lc_X6_isMarked, li_X6_isMarked, zTb6 180 (by decide +kernel) rfl⟩, ld_X6_isMarked, le_X6_isMarked⟩
theorem lk6_231 : zLV RX6 231 1 mX6_wrong := ⟨⟨lc_X6_wrong, li_X6_wrong, zTb6 164 (by decide +kernel) rfl⟩, ld_X6_wrong, le_X6_wrong⟩
theorem lk6_235 : zLV RX6 235 0 mX6_stepOn := ⟨⟨lc_X6_stepOn, li_X6_stepOn, zTb6 128 (by decide +kernel) rfl⟩, ld_X6_stepOn, le_X6_stepOn⟩
theorem lk6_242 : zLV RX6 242 2 mX6_readNumber := ⟨⟨lc_X6_readNumber, li_X6_readNumber, zTb6 172 (by decide +kernel) rfl⟩, ld_X6_readNumber, le_X6_readNumber⟩
theorem lk6_245 : zLV RX6 245 1 mX6_lay := ⟨⟨lc_X6_lay, li_X6_lay, zTb6 205 (by decide +kernel) rfl⟩, ld_X6_lay, le_X6_lay⟩
theorem lk6_248 : zLV RX6 248 1 mX6_which := ⟨⟨lc_X6_which, li_X6_which, zTb6 151 (by decide +kernel) rfl⟩, ld_X6_which, le_X6_which⟩
theorem lk6_252 : zLV RX6 252 1 mX6_mark := ⟨⟨lc_X6_mark, li_X6_mark, zTb6 209 (by decide +kernel) rfl⟩, ld_X6_mark, le_X6_mark⟩
theorem lk6_255 : zLV RX6 255 1 mX6_readExpression := ⟨⟨lc_X6_readExpression, li_X6_readExpression, zTb6 176 (by decide +kernel) rfl⟩, ld_X6_readExpression, le_X6_readExpression⟩
theorem lk6_258 : zLV RX6 258 1 mX6_readPart := ⟨⟨lc_X6_readPart, li_X6_readPart, zTb6 201 (by decide +kernel) rfl⟩, ld_X6_readPart, le_X6_readPart⟩
theorem lk6_261 : zLV RX6 261 1 mX6_readProduct := ⟨⟨lc_X6_readProduct, li_X6_readProduct, zTb6 197 (by decide +kernel) rfl⟩, ld_X6_readProduct, le_X6_readProduct⟩
theorem lk6_266 : zLV RX6 266 1 mX6_readSum := ⟨⟨lc_X6_readSum, li_X6_readSum, zTb6 193 (by decide +kernel) rfl⟩, ld_X6_readSum, le_X6_readSum⟩
theorem lk6_269 : zLV RX6 269 1 mX6_readNot := ⟨⟨lc_X6_readNot, li_X6_readNot, zTb6 188 (by decide +kernel) rfl⟩, ld_X6_readNot, le_X6_readNot⟩
theorem lk6_274 : zLV RX6 274 1 mX6_readAnd := ⟨⟨lc_X6_readAnd, li_X6_readAnd, zTb6 184 (by decide +kernel) rfl⟩, ld_X6_readAnd, le_X6_readAnd⟩
theorem lk6_279 : zLV RX6 279 2 mX6_another := ⟨⟨lc_X6_another, li_X6_another, zTb6 219 (by decide +kernel) rfl⟩, ld_X6_another, le_X6_another⟩
theorem lk6_289 : zLV RX6 289 1 mX6_sayOnce := ⟨⟨lc_X6_sayOnce, li_X6_sayOnce, zTb6 168 (by decide +kernel) rfl⟩, ld_X6_sayOnce, le_X6_sayOnce⟩
theorem lk6_292 : zLV RX6 292 1 mX6_sayJudge := ⟨⟨lc_X6_sayJudge, li_X6_sayJudge, zTb6 215 (by decide +kernel) rfl⟩, ld_X6_sayJudge, le_X6_sayJudge⟩
theorem lk6_297 : zLV RX6 297 0 mX6_sayLeaf := ⟨⟨lc_X6_sayLeaf, li_X6_sayLeaf, zTb6 224 (by decide +kernel) rfl⟩, ld_X6_sayLeaf, le_X6_sayLeaf⟩
theorem lk6_300 : zLV RX6 300 1 mX6_fail := ⟨⟨lc_X6_fail, li_X6_fail, zTb6 124 (by decide +kernel) rfl⟩, ld_X6_fail, le_X6_fail⟩
theorem lk6_303 : zLV RX6 303 1 mX6_readLine := ⟨⟨lc_X6_readLine, li_X6_readLine, zTb6 147 (by decide +kernel) rfl⟩, ld_X6_readLine, le_X6_readLine⟩
theorem lk6_306 : zLV RX6 306 0 mX6_takeOver := ⟨⟨lc_X6_takeOver, li_X6_takeOver, zTb6 228 (by decide +kernel) rfl⟩, ld_X6_takeOver, le_X6_takeOver⟩
theorem lk6_309 : zLS RX6 309 1 mX6_takeHalf := ⟨⟨lc_X6_takeHalf, li_X6_takeHalf, zTb6 232 (by decide +kernel) rfl⟩, ld_X6_takeHalf, le_X6_takeHalf⟩
theorem lk6_325 : zLS RX6 325 3 mX6_reckon := ⟨⟨lc_X6_reckon, li_X6_reckon, zTb7 107 (by decide +kernel) rfl⟩, ld_X6_reckon, le_X6_reckon⟩
theorem lk6_329 : zLV RX6 329 1 mX6_heapAt := ⟨⟨lc_X6_heapAt, li_X6_heapAt, zTb7 11 (by decide +kernel) rfl⟩, ld_X6_heapAt, le_X6_heapAt⟩
theorem lk6_332 : zLS RX6 332 1 mX6_bitsOf := ⟨⟨lc_X6_bitsOf, li_X6_bitsOf, zTb7 15 (by decide +kernel) rfl⟩, ld_X6_bitsOf, le_X6_bitsOf⟩
theorem lk6_335 : zLV RX6 335 0 mX6_fullest := ⟨⟨lc_X6_fullest, li_X6_fullest, zTb7 7 (by decide +kernel) rfl⟩, ld_X6_fullest, le_X6_fullest⟩
theorem lk6_341 : zLV RX6 341 0 mX6_mostNow := ⟨⟨lc_X6_mostNow, li_X6_mostNow, zTb7 3 (by decide +kernel) rfl⟩, ld_X6_mostNow, le_X6_mostNow⟩
theorem lk6_344 : zLV RX6 344 0 mX6_oddNow := ⟨⟨lc_X6_oddNow, li_X6_oddNow, zTb7 18 (by decide +kernel) rfl⟩, ld_X6_oddNow, le_X6_oddNow⟩
theorem lk6_347 : zLV RX6 347 0 mX6_ask := ⟨⟨lc_X6_ask, li_X6_ask, zTb7 99 (by decide +kernel) rfl⟩, ld_X6_ask, le_X6_ask⟩
theorem lk6_350 : zLV RX6 350 2 mX6_valueNow := ⟨⟨lc_X6_valueNow, li_X6_valueNow, zTb7 103 (by decide +kernel) rfl⟩, ld_X6_valueNow, le_X6_valueNow⟩
theorem lk6_354 : zLS RX6 354 2 mJ9_max_7cf53 := ⟨⟨lc_J9_max_7cf53, li_J9_max_7cf53, zTb7 26 (by decide +kernel) rfl⟩, ld_J9_max_7cf53, le_J9_max_7cf53⟩
theorem lk6_357 : zLS RX6 357 2 mX6_ringOf := ⟨⟨lc_X6_ringOf, li_X6_ringOf, zTb7 114 (by decide +kernel) rfl⟩, ld_X6_ringOf, le_X6_ringOf⟩
theorem lk6_360 : zLV RX6 360 1 mX6_drink := ⟨⟨lc_X6_drink, li_X6_drink, zTb7 95 (by decide +kernel) rfl⟩, ld_X6_drink, le_X6_drink⟩
theorem lk6_363 : zLV RX6 363 3 mX6_stirred := ⟨⟨lc_X6_stirred, li_X6_stirred, zTb7 110 (by decide +kernel) rfl⟩, ld_X6_stirred, le_X6_stirred⟩
theorem lk6_366 : zLV RX6 366 0 mX6_blow := ⟨⟨lc_X6_blow, li_X6_blow, zTb7 117 (by decide +kernel) rfl⟩, ld_X6_blow, le_X6_blow⟩
theorem lk6_369 : zLV RX6 369 0 mX6_aCase := ⟨⟨lc_X6_aCase, li_X6_aCase, zTb7 91 (by decide +kernel) rfl⟩, ld_X6_aCase, le_X6_aCase⟩
theorem lk6_372 : zLV RX6 372 2 mX6_pack := ⟨⟨lc_X6_pack, li_X6_pack, zTb7 83 (by decide +kernel) rfl⟩, ld_X6_pack, le_X6_pack⟩
theorem lk6_376 : zLV RX6 376 2 mX6_unpack := ⟨⟨lc_X6_unpack, li_X6_unpack, zTb7 151 (by decide +kernel) rfl⟩, ld_X6_unpack, le_X6_unpack⟩
theorem lk6_379 : zLV RX6 379 0 mX6_gapNow := ⟨⟨lc_X6_gapNow, li_X6_gapNow, zTb7 22 (by decide +kernel) rfl⟩, ld_X6_gapNow, le_X6_gapNow⟩
theorem lk6_382 : zLV RX6 382 1 mX6_isLeaf := ⟨⟨lc_X6_isLeaf, li_X6_isLeaf, zTb7 31 (by decide +kernel) rfl⟩, ld_X6_isLeaf, le_X6_isLeaf⟩
theorem lk6_385 : zLV RX6 385 1 mX6_isJudge := ⟨⟨lc_X6_isJudge, li_X6_isJudge, zTb7 42 (by decide +kernel) rfl⟩, ld_X6_isJudge, le_X6_isJudge⟩
theorem lk6_388 : zLV RX6 388 1 mX6_seatOf := ⟨⟨lc_X6_seatOf, li_X6_seatOf, zTb7 46 (by decide +kernel) rfl⟩, ld_X6_seatOf, le_X6_seatOf⟩
theorem lk6_391 : zLV RX6 391 1 mX6_partyOf := ⟨⟨lc_X6_partyOf, li_X6_partyOf, zTb7 50 (by decide +kernel) rfl⟩, ld_X6_partyOf, le_X6_partyOf⟩
theorem lk6_394 : zLS RX6 394 1 mX6_isPlace := ⟨⟨lc_X6_isPlace, li_X6_isPlace, zTb7 62 (by decide +kernel) rfl⟩, ld_X6_isPlace, le_X6_isPlace⟩
theorem lk6_399 : zLV RX6 399 1 mX6_refuse := ⟨⟨lc_X6_refuse, li_X6_refuse, zTb7 75 (by decide +kernel) rfl⟩, ld_X6_refuse, le_X6_refuse⟩
theorem lk6_402 : zLV RX6 402 0 mX6_keep := ⟨⟨lc_X6_keep, li_X6_keep, zTb7 79 (by decide +kernel) rfl⟩, ld_X6_keep, le_X6_keep⟩
theorem lk6_405 : zLV RX6 405 1 mX6_goOn := ⟨⟨lc_X6_goOn, li_X6_goOn, zTb7 87 (by decide +kernel) rfl⟩, ld_X6_goOn, le_X6_goOn⟩
theorem lk6_408 : zLV RX6 408 1 mX6_failing := ⟨⟨lc_X6_failing, li_X6_failing, zTb7 125 (by decide +kernel) rfl⟩, ld_X6_failing, le_X6_failing⟩
theorem lk6_411 : zLV RX6 411 2 mX6_swap := ⟨⟨lc_X6_swap, li_X6_swap, zTb7 129 (by decide +kernel) rfl⟩, ld_X6_swap, le_X6_swap⟩
theorem lk6_427 : zLS RX6 427 1 mX6_isVerdict := ⟨⟨lc_X6_isVerdict, li_X6_isVerdict, zTb7 168 (by decide +kernel) rfl⟩, ld_X6_isVerdict, le_X6_isVerdict⟩
theorem lk6_430 : zLV RX6 430 1 mX6_tellVerdicts := ⟨⟨lc_X6_tellVerdicts, li_X6_tellVerdicts, zTb7 172 (by decide +kernel) rfl⟩, ld_X6_tellVerdicts, le_X6_tellVerdicts⟩
theorem lk6_433 : zLV RX6 433 0 mX6_nextVerdict := ⟨⟨lc_X6_nextVerdict, li_X6_nextVerdict, zTb7 220 (by decide +kernel) rfl⟩, ld_X6_nextVerdict, le_X6_nextVerdict⟩
theorem lk6_442 : zLS RX6 442 2 mX6_copyTo := ⟨⟨lc_X6_copyTo, li_X6_copyTo, zTb7 213 (by decide +kernel) rfl⟩, ld_X6_copyTo, le_X6_copyTo⟩
theorem lk6_446 : zLS RX6 446 2 mX6_isOf := ⟨⟨lc_X6_isOf, li_X6_isOf, zTb7 224 (by decide +kernel) rfl⟩, ld_X6_isOf, le_X6_isOf⟩
theorem lk6_449 : zLV RX6 449 3 mX6_seatFrom := ⟨⟨lc_X6_seatFrom, li_X6_seatFrom, zTb7 216 (by decide +kernel) rfl⟩, ld_X6_seatFrom, le_X6_seatFrom⟩
theorem lk6_455 : zLV RX6 455 1 mX6_turnAll := ⟨⟨lc_X6_turnAll, li_X6_turnAll, zTb7 231 (by decide +kernel) rfl⟩, ld_X6_turnAll, le_X6_turnAll⟩
theorem lk6_458 : zLS RX6 458 1 mJ9_abs_0f7a4 := ⟨⟨lc_J9_abs_0f7a4, li_J9_abs_0f7a4, zTb8 23 (by decide +kernel) rfl⟩, ld_J9_abs_0f7a4, le_J9_abs_0f7a4⟩
theorem lk6_464 : zLV RX6 464 0 mX6_isAsRead := ⟨⟨lc_X6_isAsRead, li_X6_isAsRead, zTb8 33 (by decide +kernel) rfl⟩, ld_X6_isAsRead, le_X6_isAsRead⟩
theorem lk6_470 : zLV RX6 470 0 mX6_tellFits := ⟨⟨lc_X6_tellFits, li_X6_tellFits, zTb8 37 (by decide +kernel) rfl⟩, ld_X6_tellFits, le_X6_tellFits⟩
theorem lk6_473 : zLV RX6 473 1 mX6_unlike := ⟨⟨lc_X6_unlike, li_X6_unlike, zTb8 45 (by decide +kernel) rfl⟩, ld_X6_unlike, le_X6_unlike⟩
theorem lk6_476 : zLV RX6 476 3 mX6_gainOf := ⟨⟨lc_X6_gainOf, li_X6_gainOf, zTb8 57 (by decide +kernel) rfl⟩, ld_X6_gainOf, le_X6_gainOf⟩
theorem lk6_483 : zLV RX6 483 1 mX6_drawOf := ⟨⟨lc_X6_drawOf, li_X6_drawOf, zTb8 69 (by decide +kernel) rfl⟩, ld_X6_drawOf, le_X6_drawOf⟩
theorem lk6_486 : zLV RX6 486 0 mX6_something := ⟨⟨lc_X6_something, li_X6_something, zTb8 65 (by decide +kernel) rfl⟩, ld_X6_something, le_X6_something⟩
theorem lkL_7 : zLV RL 7 1 mX5_court := ⟨⟨lc_X5_court, li_X5_court, zTb2 226 (by decide +kernel) rfl⟩, ld_X5_court, le_X5_court⟩
theorem lkL_15 : zLV RL 15 1 mX5_count := ⟨⟨lc_X5_count, li_X5_count, zTb4 4 (by decide +kernel) rfl⟩, ld_X5_count, le_X5_count⟩
theorem lkL_20 : zLV RL 20 2 mX5_leaf := ⟨⟨lc_X5_leaf, li_X5_leaf, zTb4 36 (by decide +kernel) rfl⟩, ld_X5_leaf, le_X5_leaf⟩
theorem lkL_24 : zLV RL 24 2 mX5_judge := ⟨⟨lc_X5_judge, li_X5_judge, zTb4 49 (by decide +kernel) rfl⟩, ld_X5_judge, le_X5_judge⟩
theorem lkL_27 : zLV RL 27 1 mX5_seat := ⟨⟨lc_X5_seat, li_X5_seat, zTb4 70 (by decide +kernel) rfl⟩, ld_X5_seat, le_X5_seat⟩
theorem lkL_30 : zLV RL 30 1 mX5_heap := ⟨⟨lc_X5_heap, li_X5_heap, zTb4 78 (by decide +kernel) rfl⟩, ld_X5_heap, le_X5_heap⟩
theorem lkL_33 : zLV RL 33 2 mX5_change := ⟨⟨lc_X5_change, li_X5_change, zTb4 89 (by decide +kernel) rfl⟩, ld_X5_change, le_X5_change⟩
theorem lkL_37 : zLV RL 37 2 mX5_hand := ⟨⟨lc_X5_hand, li_X5_hand, zTb4 101 (by decide +kernel) rfl⟩, ld_X5_hand, le_X5_hand⟩
theorem lkL_40 : zLV RL 40 2 mX5_put := ⟨⟨lc_X5_put, li_X5_put, zTb4 108 (by decide +kernel) rfl⟩, ld_X5_put, le_X5_put⟩
theorem lkL_43 : zLV RL 43 2 mX5_verdict := ⟨⟨lc_X5_verdict, li_X5_verdict, zTb4 115 (by decide +kernel) rfl⟩, ld_X5_verdict, le_X5_verdict⟩
theorem lkL_46 : zLV RL 46 2 mX5_lies := ⟨⟨lc_X5_lies, li_X5_lies, zTb4 134 (by decide +kernel) rfl⟩, ld_X5_lies, le_X5_lies⟩
theorem lkL_49 : zLV RL 49 2 mX5_often := ⟨⟨lc_X5_often, li_X5_often, zTb4 141 (by decide +kernel) rfl⟩, ld_X5_often, le_X5_often⟩
theorem lkL_52 : zLV RL 52 1 mX5_first := ⟨⟨lc_X5_first, li_X5_first, zTb4 152 (by decide +kernel) rfl⟩, ld_X5_first, le_X5_first⟩
theorem lkL_55 : zLV RL 55 1 mX5_pleased := ⟨⟨lc_X5_pleased, li_X5_pleased, zTb4 159 (by decide +kernel) rfl⟩, ld_X5_pleased, le_X5_pleased⟩
theorem lkL_58 : zLV RL 58 1 mX5_swept := ⟨⟨lc_X5_swept, li_X5_swept, zTb4 174 (by decide +kernel) rfl⟩, ld_X5_swept, le_X5_swept⟩
theorem lkL_61 : zLV RL 61 2 mX5_orders := ⟨⟨lc_X5_orders, li_X5_orders, zTb4 185 (by decide +kernel) rfl⟩, ld_X5_orders, le_X5_orders⟩
theorem lkL_64 : zLV RL 64 1 mX5_toTurn := ⟨⟨lc_X5_toTurn, li_X5_toTurn, zTb4 208 (by decide +kernel) rfl⟩, ld_X5_toTurn, le_X5_toTurn⟩
theorem lkL_67 : zLV RL 67 2 mX5_toDrink := ⟨⟨lc_X5_toDrink, li_X5_toDrink, zTb4 221 (by decide +kernel) rfl⟩, ld_X5_toDrink, le_X5_toDrink⟩
theorem lkL_70 : zLV RL 70 1 mX5_toPour := ⟨⟨lc_X5_toPour, li_X5_toPour, zTb4 228 (by decide +kernel) rfl⟩, ld_X5_toPour, le_X5_toPour⟩
theorem lkL_73 : zLV RL 73 2 mX5_toLay := ⟨⟨lc_X5_toLay, li_X5_toLay, zTb4 235 (by decide +kernel) rfl⟩, ld_X5_toLay, le_X5_toLay⟩
theorem lkL_76 : zLV RL 76 1 mX5_better := ⟨⟨lc_X5_better, li_X5_better, zTb5 2 (by decide +kernel) rfl⟩, ld_X5_better, le_X5_better⟩
theorem lkL_79 : zLV RL 79 3 mX5_stir := ⟨⟨lc_X5_stir, li_X5_stir, zTb5 9 (by decide +kernel) rfl⟩, ld_X5_stir, le_X5_stir⟩
theorem lkL_83 : zLV RL 83 2 mX5_apart := ⟨⟨lc_X5_apart, li_X5_apart, zTb5 18 (by decide +kernel) rfl⟩, ld_X5_apart, le_X5_apart⟩
theorem lkL_86 : zLV RL 86 2 mX5_drunk := ⟨⟨lc_X5_drunk, li_X5_drunk, zTb5 29 (by decide +kernel) rfl⟩, ld_X5_drunk, le_X5_drunk⟩
theorem lkL_89 : zLV RL 89 1 mX5_thirstiest := ⟨⟨lc_X5_thirstiest, li_X5_thirstiest, zTb5 36 (by decide +kernel) rfl⟩, ld_X5_thirstiest, le_X5_thirstiest⟩
theorem lkL_92 : zLV RL 92 1 mX5_streak := ⟨⟨lc_X5_streak, li_X5_streak, zTb5 43 (by decide +kernel) rfl⟩, ld_X5_streak, le_X5_streak⟩
theorem lkL_95 : zLV RL 95 1 mX5_come := ⟨⟨lc_X5_come, li_X5_come, zTb5 51 (by decide +kernel) rfl⟩, ld_X5_come, le_X5_come⟩
theorem lkL_98 : zLV RL 98 1 mX5_weight := ⟨⟨lc_X5_weight, li_X5_weight, zTb5 58 (by decide +kernel) rfl⟩, ld_X5_weight, le_X5_weight⟩
theorem lkL_101 : zLV RL 101 2 mX5_read := ⟨⟨lc_X5_read, li_X5_read, zTb5 65 (by decide +kernel) rfl⟩, ld_X5_read, le_X5_read⟩
theorem lkL_104 : zLV RL 104 1 mX5_handed := ⟨⟨lc_X5_handed, li_X5_handed, zTb5 72 (by decide +kernel) rfl⟩, ld_X5_handed, le_X5_handed⟩
theorem lkL_107 : zLV RL 107 1 mX5_look := ⟨⟨lc_X5_look, li_X5_look, zTb5 96 (by decide +kernel) rfl⟩, ld_X5_look, le_X5_look⟩
theorem lkL_110 : zLV RL 110 3 mX5_game := ⟨⟨lc_X5_game, li_X5_game, zTb5 107 (by decide +kernel) rfl⟩, ld_X5_game, le_X5_game⟩
theorem lkL_113 : zLV RL 113 3 mX5_years := ⟨⟨lc_X5_years, li_X5_years, zTb5 123 (by decide +kernel) rfl⟩, ld_X5_years, le_X5_years⟩
theorem lkL_120 : zLV RL 120 5 mX5_feed := ⟨⟨lc_X5_feed, li_X5_feed, zTb2 80 (by decide +kernel) rfl⟩, ld_X5_feed, le_X5_feed⟩
theorem lkL_124 : zLV RL 124 5 mX6_feed := ⟨⟨lc_X6_feed, li_X6_feed, zTb6 116 (by decide +kernel) rfl⟩, ld_X6_feed, le_X6_feed⟩
theorem lkL_130 : zLV RL 130 1 mX6_court := ⟨⟨lc_X6_court, li_X6_court, zTb6 120 (by decide +kernel) rfl⟩, ld_X6_court, le_X6_court⟩
theorem lkL_131 : zLV RL 131 0 mX6_thrown := ⟨⟨lc_X6_thrown, li_X6_thrown, zTb6 112 (by decide +kernel) rfl⟩, ld_X6_thrown, le_X6_thrown⟩
theorem lkL_135 : zLV RL 135 0 mX5_fault := ⟨⟨lc_X5_fault, li_X5_fault, zTb2 88 (by decide +kernel) rfl⟩, ld_X5_fault, le_X5_fault⟩
theorem lkL_138 : zLV RL 138 0 mX6_fault := ⟨⟨lc_X6_fault, li_X6_fault, zTb6 235 (by decide +kernel) rfl⟩, ld_X6_fault, le_X6_fault⟩
theorem lkL_141 : zLV RL 141 1 mX6_count := ⟨⟨lc_X6_count, li_X6_count, zTb6 239 (by decide +kernel) rfl⟩, ld_X6_count, le_X6_count⟩
theorem lkL_145 : zLV RL 145 2 mX6_leaf := ⟨⟨lc_X6_leaf, li_X6_leaf, zTb7 27 (by decide +kernel) rfl⟩, ld_X6_leaf, le_X6_leaf⟩
theorem lkL_148 : zLV RL 148 2 mX6_judge := ⟨⟨lc_X6_judge, li_X6_judge, zTb7 38 (by decide +kernel) rfl⟩, ld_X6_judge, le_X6_judge⟩
theorem lkL_151 : zLV RL 151 1 mX6_seat := ⟨⟨lc_X6_seat, li_X6_seat, zTb7 54 (by decide +kernel) rfl⟩, ld_X6_seat, le_X6_seat⟩
theorem lkL_154 : zLV RL 154 1 mX6_heap := ⟨⟨lc_X6_heap, li_X6_heap, zTb7 58 (by decide +kernel) rfl⟩, ld_X6_heap, le_X6_heap⟩
theorem lkL_155 : zLV RL 155 1 mX5_cases := ⟨⟨lc_X5_cases, li_X5_cases, zTb2 92 (by decide +kernel) rfl⟩, ld_X5_cases, le_X5_cases⟩
theorem lkL_158 : zLV RL 158 1 mX6_cases := ⟨⟨lc_X6_cases, li_X6_cases, zTb7 70 (by decide +kernel) rfl⟩, ld_X6_cases, le_X6_cases⟩
theorem lkL_161 : zLV RL 161 2 mX6_change := ⟨⟨lc_X6_change, li_X6_change, zTb7 121 (by decide +kernel) rfl⟩, ld_X6_change, le_X6_change⟩
theorem lkL_164 : zLV RL 164 2 mX6_hand := ⟨⟨lc_X6_hand, li_X6_hand, zTb7 133 (by decide +kernel) rfl⟩, ld_X6_hand, le_X6_hand⟩
theorem lkL_165 : zLV RL 165 1 mX5_pot := ⟨⟨lc_X5_pot, li_X5_pot, zTb2 160 (by decide +kernel) rfl⟩, ld_X5_pot, le_X5_pot⟩
theorem lkL_168 : zLV RL 168 1 mX6_pot := ⟨⟨lc_X6_pot, li_X6_pot, zTb7 138 (by decide +kernel) rfl⟩, ld_X6_pot, le_X6_pot⟩
theorem lkL_171 : zLV RL 171 2 mX6_put := ⟨⟨lc_X6_put, li_X6_put, zTb7 143 (by decide +kernel) rfl⟩, ld_X6_put, le_X6_put⟩
theorem lkL_172 : zLV RL 172 0 mX5_undo := ⟨⟨lc_X5_undo, li_X5_undo, zTb2 164 (by decide +kernel) rfl⟩, ld_X5_undo, le_X5_undo⟩
theorem lkL_175 : zLV RL 175 0 mX6_undo := ⟨⟨lc_X6_undo, li_X6_undo, zTb7 147 (by decide +kernel) rfl⟩, ld_X6_undo, le_X6_undo⟩
theorem lkL_178 : zLV RL 178 2 mX6_verdict := ⟨⟨lc_X6_verdict, li_X6_verdict, zTb7 155 (by decide +kernel) rfl⟩, ld_X6_verdict, le_X6_verdict⟩
theorem lkL_181 : zLV RL 181 2 mX6_lies := ⟨⟨lc_X6_lies, li_X6_lies, zTb7 160 (by decide +kernel) rfl⟩, ld_X6_lies, le_X6_lies⟩
theorem lkL_184 : zLV RL 184 2 mX6_often := ⟨⟨lc_X6_often, li_X6_often, zTb7 164 (by decide +kernel) rfl⟩, ld_X6_often, le_X6_often⟩
theorem lkL_187 : zLV RL 187 1 mX6_first := ⟨⟨lc_X6_first, li_X6_first, zTb7 184 (by decide +kernel) rfl⟩, ld_X6_first, le_X6_first⟩
theorem lkL_188 : zLV RL 188 0 mX5_round := ⟨⟨lc_X5_round, li_X5_round, zTb2 176 (by decide +kernel) rfl⟩, ld_X5_round, le_X5_round⟩
theorem lkL_191 : zLV RL 191 0 mX6_round := ⟨⟨lc_X6_round, li_X6_round, zTb7 188 (by decide +kernel) rfl⟩, ld_X6_round, le_X6_round⟩
theorem lkL_194 : zLV RL 194 1 mX6_pleased := ⟨⟨lc_X6_pleased, li_X6_pleased, zTb7 192 (by decide +kernel) rfl⟩, ld_X6_pleased, le_X6_pleased⟩
theorem lkL_197 : zLV RL 197 1 mX6_swept := ⟨⟨lc_X6_swept, li_X6_swept, zTb7 196 (by decide +kernel) rfl⟩, ld_X6_swept, le_X6_swept⟩
theorem lkL_200 : zLV RL 200 2 mX6_orders := ⟨⟨lc_X6_orders, li_X6_orders, zTb7 208 (by decide +kernel) rfl⟩, ld_X6_orders, le_X6_orders⟩
theorem lkL_201 : zLV RL 201 0 mX5_decisive := ⟨⟨lc_X5_decisive, li_X5_decisive, zTb2 192 (by decide +kernel) rfl⟩, ld_X5_decisive, le_X5_decisive⟩
theorem lkL_204 : zLV RL 204 0 mX6_decisive := ⟨⟨lc_X6_decisive, li_X6_decisive, zTb7 227 (by decide +kernel) rfl⟩, ld_X6_decisive, le_X6_decisive⟩
theorem lkL_207 : zLV RL 207 1 mX6_toTurn := ⟨⟨lc_X6_toTurn, li_X6_toTurn, zTb7 235 (by decide +kernel) rfl⟩, ld_X6_toTurn, le_X6_toTurn⟩
theorem lkL_210 : zLV RL 210 2 mX6_toDrink := ⟨⟨lc_X6_toDrink, li_X6_toDrink, zTb7 239 (by decide +kernel) rfl⟩, ld_X6_toDrink, le_X6_toDrink⟩
theorem lkL_213 : zLV RL 213 1 mX6_toPour := ⟨⟨lc_X6_toPour, li_X6_toPour, zTb8 3 (by decide +kernel) rfl⟩, ld_X6_toPour, le_X6_toPour⟩
theorem lkL_216 : zLV RL 216 2 mX6_toLay := ⟨⟨lc_X6_toLay, li_X6_toLay, zTb8 7 (by decide +kernel) rfl⟩, ld_X6_toLay, le_X6_toLay⟩
theorem lkL_219 : zLV RL 219 1 mX6_better := ⟨⟨lc_X6_better, li_X6_better, zTb8 11 (by decide +kernel) rfl⟩, ld_X6_better, le_X6_better⟩
theorem lkL_223 : zLV RL 223 3 mX6_stir := ⟨⟨lc_X6_stir, li_X6_stir, zTb8 15 (by decide +kernel) rfl⟩, ld_X6_stir, le_X6_stir⟩
theorem lkL_226 : zLV RL 226 2 mX6_apart := ⟨⟨lc_X6_apart, li_X6_apart, zTb8 19 (by decide +kernel) rfl⟩, ld_X6_apart, le_X6_apart⟩
theorem lkL_229 : zLV RL 229 2 mX6_drunk := ⟨⟨lc_X6_drunk, li_X6_drunk, zTb7 200 (by decide +kernel) rfl⟩, ld_X6_drunk, le_X6_drunk⟩
theorem lkL_232 : zLV RL 232 1 mX6_thirstiest := ⟨⟨lc_X6_thirstiest, li_X6_thirstiest, zTb7 204 (by decide +kernel) rfl⟩, ld_X6_thirstiest, le_X6_thirstiest⟩
theorem lkL_235 : zLV RL 235 1 mX6_streak := ⟨⟨lc_X6_streak, li_X6_streak, zTb7 176 (by decide +kernel) rfl⟩, ld_X6_streak, le_X6_streak⟩
theorem lkL_238 : zLV RL 238 1 mX6_come := ⟨⟨lc_X6_come, li_X6_come, zTb7 180 (by decide +kernel) rfl⟩, ld_X6_come, le_X6_come⟩
theorem lkL_241 : zLV RL 241 1 mX6_weight := ⟨⟨lc_X6_weight, li_X6_weight, zTb7 66 (by decide +kernel) rfl⟩, ld_X6_weight, le_X6_weight⟩
theorem lkL_244 : zLV RL 244 2 mX6_read := ⟨⟨lc_X6_read, li_X6_read, zTb8 24 (by decide +kernel) rfl⟩, ld_X6_read, le_X6_read⟩
theorem lkL_247 : zLV RL 247 1 mX6_handed := ⟨⟨lc_X6_handed, li_X6_handed, zTb8 28 (by decide +kernel) rfl⟩, ld_X6_handed, le_X6_handed⟩
theorem lkL_250 : zLV RL 250 1 mX6_look := ⟨⟨lc_X6_look, li_X6_look, zTb8 41 (by decide +kernel) rfl⟩, ld_X6_look, le_X6_look⟩
theorem lkL_251 : zLV RL 251 0 mX5_forget := ⟨⟨lc_X5_forget, li_X5_forget, zTb2 204 (by decide +kernel) rfl⟩, ld_X5_forget, le_X5_forget⟩
theorem lkL_254 : zLV RL 254 0 mX6_forget := ⟨⟨lc_X6_forget, li_X6_forget, zTb8 49 (by decide +kernel) rfl⟩, ld_X6_forget, le_X6_forget⟩
theorem lkL_257 : zLV RL 257 3 mX6_game := ⟨⟨lc_X6_game, li_X6_game, zTb8 53 (by decide +kernel) rfl⟩, ld_X6_game, le_X6_game⟩
theorem lkL_260 : zLV RL 260 3 mX6_years := ⟨⟨lc_X6_years, li_X6_years, zTb8 61 (by decide +kernel) rfl⟩, ld_X6_years, le_X6_years⟩
theorem lkL_261 : zLV RL 261 0 mX5_image := ⟨⟨lc_X5_image, li_X5_image, zTb2 208 (by decide +kernel) rfl⟩, ld_X5_image, le_X5_image⟩
theorem lkL_264 : zLV RL 264 0 mX6_image := ⟨⟨lc_X6_image, li_X6_image, zTb8 74 (by decide +kernel) rfl⟩, ld_X6_image, le_X6_image⟩
theorem lkL_265 : zLV RL 265 0 mX5_restore := ⟨⟨lc_X5_restore, li_X5_restore, zTb2 218 (by decide +kernel) rfl⟩, ld_X5_restore, le_X5_restore⟩
theorem lkL_269 : zLV RL 269 0 mX6_restore := ⟨⟨lc_X6_restore, li_X6_restore, zTb8 78 (by decide +kernel) rfl⟩, ld_X6_restore, le_X6_restore⟩
