/-! THE PURE PART: methods, and what the pools say -/
def MX0_init : Mu := (cX0_init, yX0_init, 6, none)
def MX0_give : Mu := (cX0_give, yX0_give, 7, (some .int))
def MX0_valueOf : Mu := (cX0_valueOf, yX0_valueOf, 4, (some .int))
def MX0_joined : Mu := (cX0_joined, yX0_joined, 3, (some .int))
def MX1_init : Mu := (cX1_init, yX1_init, 1, none)
def MX1_takeOver : Mu := (cX1_takeOver, yX1_takeOver, 2, none)
def MX1_isAfloat : Mu := (cX1_isAfloat, yX1_isAfloat, 1, (some .boolean))
def MX1_isOf : Mu := (cX1_isOf, yX1_isOf, 4, (some .boolean))
def MX1_driftFrom : Mu := (cX1_driftFrom, yX1_driftFrom, 3, (some .int))
def MX1_claimedBy : Mu := (cX1_claimedBy, yX1_claimedBy, 2, (some .int))
def MX1_worth : Mu := (cX1_worth, yX1_worth, 1, (some .int))
def MX2_init : Mu := (cX2_init, yX2_init, 1, none)
def MX2_readLaw : Mu := (cX2_readLaw, yX2_readLaw, 2, (some (.object "LogLetters$Law")))
def MX2_begin : Mu := (cX2_begin, yX2_begin, 1, none)
def MX2_nextWord : Mu := (cX2_nextWord, yX2_nextWord, 2, (some .boolean))
def MX2_sortOf : Mu := (cX2_sortOf, yX2_sortOf, 1, (some .int))
def MX2_takesKey : Mu := (cX2_takesKey, yX2_takesKey, 1, (some .boolean))
def MX2_isWord : Mu := (cX2_isWord, yX2_isWord, 3, (some .boolean))
def MX2_goesOn : Mu := (cX2_goesOn, yX2_goesOn, 2, (some .boolean))
def MX2_takesPiece : Mu := (cX2_takesPiece, yX2_takesPiece, 2, (some .boolean))
def MX2_takesNumber : Mu := (cX2_takesNumber, yX2_takesNumber, 3, (some .boolean))
def MX2_takesName : Mu := (cX2_takesName, yX2_takesName, 3, (some .boolean))
def MX2_namesOf : Mu := (cX2_namesOf, yX2_namesOf, 1, (some (.object "java/lang/String")))
def MX2_takesSign : Mu := (cX2_takesSign, yX2_takesSign, 4, (some .boolean))
def MX2_levelOf : Mu := (cX2_levelOf, yX2_levelOf, 1, (some .int))
def MX2_closesBracket : Mu := (cX2_closesBracket, yX2_closesBracket, 1, (some .boolean))
def MX2_addPiece : Mu := (cX2_addPiece, yX2_addPiece, 2, none)
def MX2_closeBangs : Mu := (cX2_closeBangs, yX2_closeBangs, 1, none)
def MX2_closeDownTo : Mu := (cX2_closeDownTo, yX2_closeDownTo, 2, none)
def MX2_topSign : Mu := (cX2_topSign, yX2_topSign, 1, (some .int))
def MX2_pop : Mu := (cX2_pop, yX2_pop, 1, (some .int))
def MX2_push : Mu := (cX2_push, yX2_push, 2, none)
def MX2_addCode : Mu := (cX2_addCode, yX2_addCode, 2, none)
def MX3_init : Mu := (cX3_init, yX3_init, 2, none)
def MX3_takeOver : Mu := (cX3_takeOver, yX3_takeOver, 3, none)
def MX3_hasLog : Mu := (cX3_hasLog, yX3_hasLog, 2, (some .boolean))
def MX3_addLog : Mu := (cX3_addLog, yX3_addLog, 5, (some .boolean))
def MX3_drawLog : Mu := (cX3_drawLog, yX3_drawLog, 4, none)
def MX3_addLetter : Mu := (cX3_addLetter, yX3_addLetter, 2, (some .boolean))
def MX3_addLaw : Mu := (cX3_addLaw, yX3_addLaw, 2, (some .boolean))
def MX3_lawAt : Mu := (cX3_lawAt, yX3_lawAt, 2, (some (.object "LogLetters$Law")))
def MX3_lawNumberFor : Mu := (cX3_lawNumberFor, yX3_lawNumberFor, 4, (some .int))
def MX3_lawFor : Mu := (cX3_lawFor, yX3_lawFor, 2, (some (.object "LogLetters$Law")))
def MX3_draw : Mu := (cX3_draw, yX3_draw, 1, (some .int))
def MX3_driftOf : Mu := (cX3_driftOf, yX3_driftOf, 4, (some .int))
def MX3_passWeeks : Mu := (cX3_passWeeks, yX3_passWeeks, 3, none)
def MX3_passWeek : Mu := (cX3_passWeek, yX3_passWeek, 3, none)
def MX3_countHeld : Mu := (cX3_countHeld, yX3_countHeld, 2, none)
def MX3_carryFrom : Mu := (cX3_carryFrom, yX3_carryFrom, 4, none)
def MX3_carry : Mu := (cX3_carry, yX3_carry, 4, none)
def MX3_mayLeave : Mu := (cX3_mayLeave, yX3_mayLeave, 3, (some .boolean))
def MX3_sawByLot : Mu := (cX3_sawByLot, yX3_sawByLot, 2, none)
def MX3_letterRead : Mu := (cX3_letterRead, yX3_letterRead, 3, (some .int))
def MX3_spelt : Mu := (cX3_spelt, yX3_spelt, 3, (some .int))
def MX3_unusedWith : Mu := (cX3_unusedWith, yX3_unusedWith, 5, (some .int))
def MX3_jammed : Mu := (cX3_jammed, yX3_jammed, 3, (some .int))
def MX3_afloat : Mu := (cX3_afloat, yX3_afloat, 3, (some .int))
def MX3_reachesTogether : Mu := (cX3_reachesTogether, yX3_reachesTogether, 3, (some .int))
def MX4_init : Mu := (cX4_init, yX4_init, 1, none)
def MX4_become : Mu := (cX4_become, yX4_become, 4, none)
def MX4_takeOver : Mu := (cX4_takeOver, yX4_takeOver, 2, none)
def MX4_isMissing : Mu := (cX4_isMissing, yX4_isMissing, 1, (some .boolean))
def MX4_hasPlace : Mu := (cX4_hasPlace, yX4_hasPlace, 2, (some .boolean))
def MX4_hasNumber : Mu := (cX4_hasNumber, yX4_hasNumber, 2, (some .boolean))
def MX4_hasPlaces : Mu := (cX4_hasPlaces, yX4_hasPlaces, 3, (some .boolean))
def MX5_init : Mu := (cX5_init, yX5_init, 1, none)
def MX5_findingFor : Mu := (cX5_findingFor, yX5_findingFor, 2, (some .int))
def MX6_init : Mu := (cX6_init, yX6_init, 1, none)
def MX6_addBytesOf : Mu := (cX6_addBytesOf, yX6_addBytesOf, 3, none)
def MX6_byteAt : Mu := (cX6_byteAt, yX6_byteAt, 2, (some .int))
def MJ6_bitCount_0f7a4 : Mu := (cJ6_bitCount_0f7a4, yJ6_bitCount_0f7a4, 1, (some .int))
def MJ9_abs_0f7a4 : Mu := (cJ9_abs_0f7a4, yJ9_abs_0f7a4, 1, (some .int))
def MJ9_max_7cf53 : Mu := (cJ9_max_7cf53, yJ9_max_7cf53, 2, (some .int))
def MJ9_min_7cf53 : Mu := (cJ9_min_7cf53, yJ9_min_7cf53, 2, (some .int))
def MJ0_length_8abf5 : Mu := (cJ0_length_8abf5, yJ0_length_8abf5, 1, (some .int))
def MJ0_charAt_5068e : Mu := (cJ0_charAt_5068e, yJ0_charAt_5068e, 2, (some .char))
def MJ0_indexOf_0f7a4 : Mu := (cJ0_indexOf_0f7a4, yJ0_indexOf_0f7a4, 2, (some .int))
def MJ0_indexOf_7cf53 : Mu := (cJ0_indexOf_7cf53, yJ0_indexOf_7cf53, 3, (some .int))
def MJ0_coder_7d493 : Mu := (cJ0_coder_7d493, yJ0_coder_7d493, 1, (some .byte))
def MJ0_isLatin1_aae02 : Mu := (cJ0_isLatin1_aae02, yJ0_isLatin1_aae02, 1, (some .boolean))
def MJ0_checkIndex_df160 : Mu := (cJ0_checkIndex_df160, yJ0_checkIndex_df160, 2, none)
def MJ1_charAt_3b067 : Mu := (cJ1_charAt_3b067, yJ1_charAt_3b067, 2, (some .char))
def MJ1_canEncode_9a6ad : Mu := (cJ1_canEncode_9a6ad, yJ1_canEncode_9a6ad, 1, (some .boolean))
def MJ1_indexOf_4cfef : Mu := (cJ1_indexOf_4cfef, yJ1_indexOf_4cfef, 4, (some .int))
def MJ1_indexOfChar_4cfef : Mu := (cJ1_indexOfChar_4cfef, yJ1_indexOfChar_4cfef, 6, (some .int))
def MJ3_checkIndex_8e157 : Mu := (cJ3_checkIndex_8e157, yJ3_checkIndex_8e157, 3, (some .int))
def MX7_init : Mu := (cX7_init, yX7_init, 2, none)
def MX7_log : Mu := (cX7_log, yX7_log, 4, (some .int))
def MX7_told : Mu := (cX7_told, yX7_told, 4, (some .int))
def MX7_as : Mu := (cX7_as, yX7_as, 3, (some .int))
def MX7_turns : Mu := (cX7_turns, yX7_turns, 4, (some .int))
def MX7_set : Mu := (cX7_set, yX7_set, 6, (some .int))
def MX7_lays : Mu := (cX7_lays, yX7_lays, 4, (some .int))
def MX7_reach : Mu := (cX7_reach, yX7_reach, 5, (some .int))
def MX7_rule : Mu := (cX7_rule, yX7_rule, 4, (some .int))
def MX7_word : Mu := (cX7_word, yX7_word, 2, (some .int))
def MX7_unword : Mu := (cX7_unword, yX7_unword, 2, (some .int))
def MX7_deal : Mu := (cX7_deal, yX7_deal, 4, (some .int))
def MX7_seed : Mu := (cX7_seed, yX7_seed, 3, (some .int))
def MX7_weeks : Mu := (cX7_weeks, yX7_weeks, 3, (some .int))
def MX7_read : Mu := (cX7_read, yX7_read, 2, (some .int))
def MX7_river : Mu := (cX7_river, yX7_river, 2, (some .int))
def MX7_behind : Mu := (cX7_behind, yX7_behind, 3, (some .int))
def MX7_whole : Mu := (cX7_whole, yX7_whole, 2, (some .int))
def MX7_frees : Mu := (cX7_frees, yX7_frees, 6, (some .int))
def MX7_lost : Mu := (cX7_lost, yX7_lost, 5, (some .int))
def MX7_wider : Mu := (cX7_wider, yX7_wider, 6, (some .int))
def MX7_opened : Mu := (cX7_opened, yX7_opened, 4, (some .int))
def MX7_rolled : Mu := (cX7_rolled, yX7_rolled, 5, (some .int))
def MX7_looked : Mu := (cX7_looked, yX7_looked, 8, (some .int))
def MX7_fee : Mu := (cX7_fee, yX7_fee, 2, (some .int))
def MX7_fine : Mu := (cX7_fine, yX7_fine, 4, (some .int))
def MX7_feed : Mu := (cX7_feed, yX7_feed, 5, (some .int))
def MX7_trim : Mu := (cX7_trim, yX7_trim, 2, (some .int))
def MX7_text : Mu := (cX7_text, yX7_text, 2, (some .int))
def MX7_textTold : Mu := (cX7_textTold, yX7_textTold, 4, (some .int))
def MX7_why : Mu := (cX7_why, yX7_why, 2, (some .int))
def MX7_sheet : Mu := (cX7_sheet, yX7_sheet, 4, (some .int))
def MX7_mark : Mu := (cX7_mark, yX7_mark, 5, (some .int))
def MX7_pour : Mu := (cX7_pour, yX7_pour, 5, (some .int))
def MX7_reads : Mu := (cX7_reads, yX7_reads, 4, (some .int))
def MX7_copy : Mu := (cX7_copy, yX7_copy, 8, (some .int))
def MX7_lay : Mu := (cX7_lay, yX7_lay, 5, (some .int))
def MX7_ask : Mu := (cX7_ask, yX7_ask, 4, (some .int))
def MX7_item : Mu := (cX7_item, yX7_item, 5, (some .int))
def MX7_rest : Mu := (cX7_rest, yX7_rest, 4, (some .int))
def MX7_tell : Mu := (cX7_tell, yX7_tell, 2, (some .int))
def MX7_check : Mu := (cX7_check, yX7_check, 5, (some .int))
def MX7_keep : Mu := (cX7_keep, yX7_keep, 1, (some .int))
def MX7_back : Mu := (cX7_back, yX7_back, 1, (some .int))
def MX7_count : Mu := (cX7_count, yX7_count, 2, (some .int))
def MX7_startThought : Mu := (cX7_startThought, yX7_startThought, 1, none)
def MX7_startThoughtWithout : Mu := (cX7_startThoughtWithout, yX7_startThoughtWithout, 2, none)
def MX7_apartWithMass : Mu := (cX7_apartWithMass, yX7_apartWithMass, 6, (some .int))
def MX7_isWaiting : Mu := (cX7_isWaiting, yX7_isWaiting, 4, (some .boolean))
def MX7_within : Mu := (cX7_within, yX7_within, 3, (some .boolean))
def MX7_hold : Mu := (cX7_hold, yX7_hold, 3, (some .int))
def MX7_isKind : Mu := (cX7_isKind, yX7_isKind, 1, (some .boolean))
def MX7_isLetter : Mu := (cX7_isLetter, yX7_isLetter, 1, (some .boolean))
def MX7_isMass : Mu := (cX7_isMass, yX7_isMass, 1, (some .boolean))
def MX7_isReach : Mu := (cX7_isReach, yX7_isReach, 1, (some .boolean))
def MX7_isSheet : Mu := (cX7_isSheet, yX7_isSheet, 1, (some .boolean))
def MX7_isSlot : Mu := (cX7_isSlot, yX7_isSlot, 1, (some .boolean))
def MX8_init : Mu := (cX8_init, yX8_init, 2, none)
def MX8_in : Mu := (cX8_in, yX8_in, 3, (some .boolean))
def MX8_within : Mu := (cX8_within, yX8_within, 3, (some .int))
def MX8_copyAll : Mu := (cX8_copyAll, yX8_copyAll, 3, none)
def MX8_isLog : Mu := (cX8_isLog, yX8_isLog, 2, (some .boolean))
def MX8_isReach : Mu := (cX8_isReach, yX8_isReach, 1, (some .boolean))
def MX8_of : Mu := (cX8_of, yX8_of, 3, (some .int))
def MX8_put : Mu := (cX8_put, yX8_put, 4, none)
def MX8_becomes : Mu := (cX8_becomes, yX8_becomes, 4, (some .int))
def MX8_comes : Mu := (cX8_comes, yX8_comes, 5, (some .int))
def MX8_log : Mu := (cX8_log, yX8_log, 4, (some .int))
def MX8_driftsOf : Mu := (cX8_driftsOf, yX8_driftsOf, 4, (some .int))
def MX8_claimedOf : Mu := (cX8_claimedOf, yX8_claimedOf, 2, (some .int))
def MX8_worthOf : Mu := (cX8_worthOf, yX8_worthOf, 3, (some .int))
def MX8_told : Mu := (cX8_told, yX8_told, 3, (some .int))
def MX8_isUnder : Mu := (cX8_isUnder, yX8_isUnder, 2, (some .boolean))
def MX8_as : Mu := (cX8_as, yX8_as, 3, (some .int))
def MX8_turns : Mu := (cX8_turns, yX8_turns, 3, (some .int))
def MX8_set : Mu := (cX8_set, yX8_set, 4, (some .int))
def MX8_lays : Mu := (cX8_lays, yX8_lays, 3, (some .int))
def MX8_reach : Mu := (cX8_reach, yX8_reach, 4, (some .int))
def MX8_rule : Mu := (cX8_rule, yX8_rule, 3, (some .int))
def MX8_word : Mu := (cX8_word, yX8_word, 2, (some .int))
def MX8_unword : Mu := (cX8_unword, yX8_unword, 1, (some .int))
def MX8_draw : Mu := (cX8_draw, yX8_draw, 1, (some .int))
def MX8_deal : Mu := (cX8_deal, yX8_deal, 6, (some .int))
def MX8_seed : Mu := (cX8_seed, yX8_seed, 2, (some .int))
def MX8_manyAt : Mu := (cX8_manyAt, yX8_manyAt, 4, (some .int))
def MX8_goesDown : Mu := (cX8_goesDown, yX8_goesDown, 5, none)
def MX8_saws : Mu := (cX8_saws, yX8_saws, 2, none)
def MX8_week : Mu := (cX8_week, yX8_week, 3, none)
def MX8_goesOn : Mu := (cX8_goesOn, yX8_goesOn, 3, none)
def MX8_weeks : Mu := (cX8_weeks, yX8_weeks, 3, (some .int))
def MX8_read : Mu := (cX8_read, yX8_read, 4, (some .int))
def MX8_spelt : Mu := (cX8_spelt, yX8_spelt, 6, (some .int))
def MX8_jam : Mu := (cX8_jam, yX8_jam, 4, (some .int))
def MX8_river : Mu := (cX8_river, yX8_river, 4, (some .int))
def MX8_thinks : Mu := (cX8_thinks, yX8_thinks, 2, none)
def MX8_putsBack : Mu := (cX8_putsBack, yX8_putsBack, 2, none)
def MX8_behind : Mu := (cX8_behind, yX8_behind, 4, (some .int))
def MX8_whole : Mu := (cX8_whole, yX8_whole, 2, (some .int))
def MX8_comeBehind : Mu := (cX8_comeBehind, yX8_comeBehind, 3, (some .int))
def MX8_frees : Mu := (cX8_frees, yX8_frees, 7, (some .int))
def MX8_speltBehind : Mu := (cX8_speltBehind, yX8_speltBehind, 3, (some .int))
def MX8_lost : Mu := (cX8_lost, yX8_lost, 5, (some .int))
def MX8_wider : Mu := (cX8_wider, yX8_wider, 7, (some .int))
def MX8_opened : Mu := (cX8_opened, yX8_opened, 4, (some .int))
def MX8_rolled : Mu := (cX8_rolled, yX8_rolled, 5, (some .int))
def MX8_offBy : Mu := (cX8_offBy, yX8_offBy, 10, (some .long))
def MX8_looked : Mu := (cX8_looked, yX8_looked, 10, (some .int))
def MX8_fee : Mu := (cX8_fee, yX8_fee, 2, (some .int))
def MX8_fine : Mu := (cX8_fine, yX8_fine, 3, (some .int))
def MX8_feed : Mu := (cX8_feed, yX8_feed, 6, (some .int))
def MX8_trim : Mu := (cX8_trim, yX8_trim, 2, (some .int))
def MX8_isLetter : Mu := (cX8_isLetter, yX8_isLetter, 2, (some .boolean))
def MX8_isFigure : Mu := (cX8_isFigure, yX8_isFigure, 2, (some .boolean))
def MX8_go : Mu := (cX8_go, yX8_go, 2, none)
def MX8_takesKey : Mu := (cX8_takesKey, yX8_takesKey, 5, (some .boolean))
def MX8_nameOf : Mu := (cX8_nameOf, yX8_nameOf, 2, (some .int))
def MX8_rank : Mu := (cX8_rank, yX8_rank, 1, (some .int))
def MX8_settle : Mu := (cX8_settle, yX8_settle, 2, none)
def MX8_signHere : Mu := (cX8_signHere, yX8_signHere, 1, (some .int))
def MX8_takesPart : Mu := (cX8_takesPart, yX8_takesPart, 2, (some .boolean))
def MX8_takesE : Mu := (cX8_takesE, yX8_takesE, 5, (some .boolean))
def MX8_notsOpen : Mu := (cX8_notsOpen, yX8_notsOpen, 3, (some .int))
def MX8_text : Mu := (cX8_text, yX8_text, 4, (some .int))
def MX8_textTold : Mu := (cX8_textTold, yX8_textTold, 3, (some .int))
def MX8_counts : Mu := (cX8_counts, yX8_counts, 3, (some .int))
def MX8_why : Mu := (cX8_why, yX8_why, 3, (some .int))
def MX8_two : Mu := (cX8_two, yX8_two, 3, (some .int))
def MX8_worksOut : Mu := (cX8_worksOut, yX8_worksOut, 6, (some .int))
def MX8_isSheet : Mu := (cX8_isSheet, yX8_isSheet, 1, (some .boolean))
def MX8_isSlot : Mu := (cX8_isSlot, yX8_isSlot, 1, (some .boolean))
def MX8_sheet : Mu := (cX8_sheet, yX8_sheet, 5, (some .int))
def MX8_mark : Mu := (cX8_mark, yX8_mark, 4, (some .int))
def MX8_pour : Mu := (cX8_pour, yX8_pour, 6, (some .int))
def MX8_reads : Mu := (cX8_reads, yX8_reads, 4, (some .int))
def MX8_copy : Mu := (cX8_copy, yX8_copy, 7, (some .int))
def MX8_lay : Mu := (cX8_lay, yX8_lay, 6, (some .int))
def MX8_ask : Mu := (cX8_ask, yX8_ask, 3, (some .int))
def MX8_item : Mu := (cX8_item, yX8_item, 4, (some .int))
def MX8_rest : Mu := (cX8_rest, yX8_rest, 3, (some .int))
def MX8_tell : Mu := (cX8_tell, yX8_tell, 2, (some .int))
def MX8_allReaches : Mu := (cX8_allReaches, yX8_allReaches, 3, (some .int))
def MX8_check : Mu := (cX8_check, yX8_check, 6, (some .int))
def MX8_keep : Mu := (cX8_keep, yX8_keep, 1, (some .int))
def MX8_back : Mu := (cX8_back, yX8_back, 1, (some .int))
def MX8_count : Mu := (cX8_count, yX8_count, 2, (some .int))
def ML_law : Mu := (code, x, maxLocals, ret)
theorem rRX0_3 : fLink RX0 3 = some (Lib.objectInit, none) ∧ okw (.methodLink RX0 3 Lib.objectInit) = true := ⟨by decide +kernel, by decide +kernel⟩
theorem fRX0_9 : fld RX0 9 = some (0, 0) := by decide +kernel
theorem fRX0_15 : fld RX0 15 = some (0, 1) := by decide +kernel
theorem rRX0_18 : rsl 0 RX0 18 = some (MX7_hold, 3) := by decide +kernel
theorem fRX0_22 : fld RX0 22 = some (0, 2) := by decide +kernel
theorem rRX0_26 : fLink RX0 26 = some (arraycopyName, none) ∧ okw (.methodLink RX0 26 arraycopyName) = true := ⟨by decide +kernel, by decide +kernel⟩
theorem rRX0_32 : rsl 0 RX0 32 = some (MJ9_max_7cf53, 2) := by decide +kernel
theorem fRX0_38 : fld RX0 38 = some (0, 3) := by decide +kernel
theorem rRX0_41 : rsl 0 RX0 41 = some (MX0_valueOf, 4) := by decide +kernel
theorem rRX0_45 : rsl 0 RX0 45 = some (MX0_joined, 3) := by decide +kernel
theorem rRX1_3 : fLink RX1 3 = some (Lib.objectInit, none) ∧ okw (.methodLink RX1 3 Lib.objectInit) = true := ⟨by decide +kernel, by decide +kernel⟩
theorem fRX1_9 : fld RX1 9 = some (1, 0) := by decide +kernel
theorem fRX1_15 : fld RX1 15 = some (1, 1) := by decide +kernel
theorem fRX1_18 : fld RX1 18 = some (1, 2) := by decide +kernel
theorem fRX1_21 : fld RX1 21 = some (1, 3) := by decide +kernel
theorem fRX1_24 : fld RX1 24 = some (1, 4) := by decide +kernel
theorem rRX1_27 : rsl 0 RX1 27 = some (MX7_isReach, 1) := by decide +kernel
theorem sRX1_31 : sta RX1 31 = some (vR 1 0 0) := by decide +kernel
theorem rRX1_35 : rsl 0 RX1 35 = some (MX7_isKind, 1) := by decide +kernel
theorem rRX1_38 : rsl 0 RX1 38 = some (MJ9_min_7cf53, 2) := by decide +kernel
theorem rRX2_3 : fLink RX2 3 = some (Lib.objectInit, none) ∧ okw (.methodLink RX2 3 Lib.objectInit) = true := ⟨by decide +kernel, by decide +kernel⟩
theorem nRX2_9 : nwc RX2 9 = some 6 := by decide +kernel
theorem rRX2_11 : rsl 2 RX2 11 = some (MX6_init, 0) := by decide +kernel
theorem fRX2_12 : fld RX2 12 = some (2, 0) := by decide +kernel
theorem fRX2_18 : fld RX2 18 = some (2, 1) := by decide +kernel
theorem fRX2_22 : fld RX2 22 = some (2, 2) := by decide +kernel
theorem fRX2_25 : fld RX2 25 = some (2, 3) := by decide +kernel
theorem fRX2_29 : fld RX2 29 = some (2, 4) := by decide +kernel
theorem fRX2_32 : fld RX2 32 = some (2, 5) := by decide +kernel
theorem fRX2_35 : fld RX2 35 = some (2, 6) := by decide +kernel
theorem fRX2_38 : fld RX2 38 = some (2, 7) := by decide +kernel
theorem fRX2_41 : fld RX2 41 = some (2, 8) := by decide +kernel
theorem fRX2_44 : fld RX2 44 = some (2, 9) := by decide +kernel
theorem fRX2_47 : fld RX2 47 = some (2, 10) := by decide +kernel
theorem fRX2_50 : fld RX2 50 = some (2, 11) := by decide +kernel
theorem fRX2_54 : fld RX2 54 = some (2, 12) := by decide +kernel
theorem fRX2_57 : fld RX2 57 = some (2, 13) := by decide +kernel
theorem rRX2_60 : rsl 1 RX2 60 = some (MX2_begin, 0) := by decide +kernel
theorem rRX2_63 : rsl 1 RX2 63 = some (MX2_nextWord, 0) := by decide +kernel
theorem rRX2_67 : rsl 1 RX2 67 = some (MX2_takesKey, 0) := by decide +kernel
theorem rRX2_70 : rsl 1 RX2 70 = some (MX2_goesOn, 0) := by decide +kernel
theorem rRX2_73 : rsl 1 RX2 73 = some (MX2_closeBangs, 0) := by decide +kernel
theorem fRX2_76 : fld RX2 76 = some (6, 1) := by decide +kernel
theorem rRX2_79 : rsl 1 RX2 79 = some (MX2_closeDownTo, 1) := by decide +kernel
theorem nRX2_83 : nwc RX2 83 = some 0 := by decide +kernel
theorem rRX2_85 : rsl 2 RX2 85 = some (MX0_init, 4) := by decide +kernel
theorem rRX2_88 : rsl 1 RX2 88 = some (MX6_byteAt, 1) := by decide +kernel
theorem rRX2_92 : rsl 0 RX2 92 = some (MX2_sortOf, 1) := by decide +kernel
theorem rRX2_95 : rsl 0 RX2 95 = some (MX7_within, 3) := by decide +kernel
theorem kRX2_99 : fCst RX2 99 = none ∧ fStr RX2 99 = some 0 := ⟨by decide +kernel, by decide +kernel⟩
theorem rRX2_101 : rsl 1 RX2 101 = some (MX2_isWord, 1) := by decide +kernel
theorem kRX2_105 : fCst RX2 105 = none ∧ fStr RX2 105 = some 1 := ⟨by decide +kernel, by decide +kernel⟩
theorem kRX2_107 : fCst RX2 107 = none ∧ fStr RX2 107 = some 2 := ⟨by decide +kernel, by decide +kernel⟩
theorem rRX2_109 : rsl 1 RX2 109 = some (MJ0_length_8abf5, 0) := by decide +kernel
theorem rRX2_115 : rsl 1 RX2 115 = some (MJ0_charAt_5068e, 1) := by decide +kernel
theorem rRX2_119 : rsl 1 RX2 119 = some (MX2_takesPiece, 1) := by decide +kernel
theorem rRX2_123 : rsl 1 RX2 123 = some (MX2_takesSign, 1) := by decide +kernel
theorem rRX2_126 : rsl 1 RX2 126 = some (MX2_takesNumber, 0) := by decide +kernel
theorem rRX2_129 : rsl 1 RX2 129 = some (MX2_takesName, 1) := by decide +kernel
theorem rRX2_132 : rsl 1 RX2 132 = some (MX2_push, 1) := by decide +kernel
theorem rRX2_135 : rsl 1 RX2 135 = some (MX2_addPiece, 1) := by decide +kernel
theorem rRX2_138 : rsl 0 RX2 138 = some (MX2_namesOf, 1) := by decide +kernel
theorem rRX2_142 : rsl 1 RX2 142 = some (MJ0_indexOf_0f7a4, 1) := by decide +kernel
theorem kRX2_145 : fCst RX2 145 = none ∧ fStr RX2 145 = some 3 := ⟨by decide +kernel, by decide +kernel⟩
theorem kRX2_147 : fCst RX2 147 = none ∧ fStr RX2 147 = some 4 := ⟨by decide +kernel, by decide +kernel⟩
theorem kRX2_149 : fCst RX2 149 = none ∧ fStr RX2 149 = some 5 := ⟨by decide +kernel, by decide +kernel⟩
theorem rRX2_151 : rsl 1 RX2 151 = some (MX2_closesBracket, 0) := by decide +kernel
theorem rRX2_154 : rsl 0 RX2 154 = some (MX2_levelOf, 1) := by decide +kernel
theorem rRX2_157 : rsl 1 RX2 157 = some (MX2_pop, 0) := by decide +kernel
theorem rRX2_160 : rsl 1 RX2 160 = some (MX2_addCode, 1) := by decide +kernel
theorem rRX2_163 : rsl 1 RX2 163 = some (MX2_topSign, 0) := by decide +kernel
theorem rRX3_3 : fLink RX3 3 = some (Lib.objectInit, none) ∧ okw (.methodLink RX3 3 Lib.objectInit) = true := ⟨by decide +kernel, by decide +kernel⟩
theorem nRX3_9 : nwa RX3 9 = some 14 := by decide +kernel
theorem fRX3_11 : fld RX3 11 = some (3, 0) := by decide +kernel
theorem fRX3_17 : fld RX3 17 = some (3, 1) := by decide +kernel
theorem fRX3_21 : fld RX3 21 = some (3, 2) := by decide +kernel
theorem fRX3_24 : fld RX3 24 = some (3, 3) := by decide +kernel
theorem fRX3_27 : fld RX3 27 = some (3, 4) := by decide +kernel
theorem nRX3_30 : nwa RX3 30 = some 15 := by decide +kernel
theorem fRX3_32 : fld RX3 32 = some (3, 5) := by decide +kernel
theorem fRX3_36 : fld RX3 36 = some (3, 6) := by decide +kernel
theorem fRX3_40 : fld RX3 40 = some (3, 7) := by decide +kernel
theorem fRX3_43 : fld RX3 43 = some (3, 8) := by decide +kernel
theorem fRX3_46 : fld RX3 46 = some (3, 9) := by decide +kernel
theorem fRX3_49 : fld RX3 49 = some (3, 10) := by decide +kernel
theorem fRX3_52 : fld RX3 52 = some (3, 11) := by decide +kernel
theorem fRX3_55 : fld RX3 55 = some (3, 12) := by decide +kernel
theorem fRX3_58 : fld RX3 58 = some (3, 13) := by decide +kernel
theorem fRX3_61 : fld RX3 61 = some (3, 14) := by decide +kernel
theorem fRX3_64 : fld RX3 64 = some (3, 15) := by decide +kernel
theorem nRX3_9 : nwc RX3 9 = some 1 := by decide +kernel
theorem rRX3_67 : rsl 2 RX3 67 = some (MX1_init, 0) := by decide +kernel
theorem rRX3_68 : fLink RX3 68 = some (arraycopyName, none) ∧ okw (.methodLink RX3 68 arraycopyName) = true := ⟨by decide +kernel, by decide +kernel⟩
theorem rRX3_74 : rsl 1 RX3 74 = some (MX1_takeOver, 1) := by decide +kernel
theorem rRX3_78 : rsl 0 RX3 78 = some (MX7_within, 3) := by decide +kernel
theorem fRX3_82 : fld RX3 82 = some (1, 0) := by decide +kernel
theorem fRX3_85 : fld RX3 85 = some (1, 1) := by decide +kernel
theorem fRX3_88 : fld RX3 88 = some (1, 2) := by decide +kernel
theorem fRX3_91 : fld RX3 91 = some (1, 3) := by decide +kernel
theorem fRX3_94 : fld RX3 94 = some (1, 4) := by decide +kernel
theorem rRX3_97 : rsl 1 RX3 97 = some (MX3_draw, 0) := by decide +kernel
theorem rRX3_101 : rsl 1 RX3 101 = some (MX3_addLog, 3) := by decide +kernel
theorem rRX3_104 : rsl 1 RX3 104 = some (MX3_lawAt, 1) := by decide +kernel
theorem fRX3_108 : fld RX3 108 = some (0, 0) := by decide +kernel
theorem kRX3_111 : fCst RX3 111 = some (-1000000005) ∧ okw (.constant RX3 111 (-1000000005)) = true := ⟨by decide +kernel, by decide +kernel⟩
theorem rRX3_112 : rsl 1 RX3 112 = some (MX3_lawNumberFor, 1) := by decide +kernel
theorem kRX3_116 : fCst RX3 116 = some (1103515245) ∧ okw (.constant RX3 116 (1103515245)) = true := ⟨by decide +kernel, by decide +kernel⟩
theorem rRX3_117 : rsl 0 RX3 117 = some (MJ9_max_7cf53, 2) := by decide +kernel
theorem rRX3_123 : rsl 1 RX3 123 = some (MX0_give, 3) := by decide +kernel
theorem rRX3_127 : rsl 0 RX3 127 = some (MX7_hold, 3) := by decide +kernel
theorem rRX3_130 : rsl 1 RX3 130 = some (MX1_driftFrom, 2) := by decide +kernel
theorem rRX3_133 : rsl 1 RX3 133 = some (MX3_passWeek, 0) := by decide +kernel
theorem rRX3_136 : rsl 1 RX3 136 = some (MX3_countHeld, 0) := by decide +kernel
theorem rRX3_139 : rsl 1 RX3 139 = some (MX3_lawFor, 1) := by decide +kernel
theorem rRX3_142 : rsl 1 RX3 142 = some (MX3_carryFrom, 2) := by decide +kernel
theorem rRX3_146 : rsl 1 RX3 146 = some (MX3_sawByLot, 1) := by decide +kernel
theorem rRX3_150 : rsl 1 RX3 150 = some (MX1_isAfloat, 0) := by decide +kernel
theorem rRX3_154 : rsl 1 RX3 154 = some (MX3_driftOf, 2) := by decide +kernel
theorem rRX3_158 : rsl 1 RX3 158 = some (MX3_carry, 2) := by decide +kernel
theorem rRX3_162 : rsl 1 RX3 162 = some (MX3_mayLeave, 1) := by decide +kernel
theorem rRX3_166 : rsl 0 RX3 166 = some (MX7_isReach, 1) := by decide +kernel
theorem rRX3_169 : rsl 1 RX3 169 = some (MX3_hasLog, 1) := by decide +kernel
theorem rRX3_172 : rsl 1 RX3 172 = some (MX1_claimedBy, 1) := by decide +kernel
theorem rRX3_175 : rsl 1 RX3 175 = some (MX3_unusedWith, 2) := by decide +kernel
theorem rRX3_178 : rsl 0 RX3 178 = some (MJ6_bitCount_0f7a4, 1) := by decide +kernel
theorem rRX4_3 : fLink RX4 3 = some (Lib.objectInit, none) ∧ okw (.methodLink RX4 3 Lib.objectInit) = true := ⟨by decide +kernel, by decide +kernel⟩
theorem fRX4_9 : fld RX4 9 = some (4, 0) := by decide +kernel
theorem fRX4_15 : fld RX4 15 = some (4, 1) := by decide +kernel
theorem fRX4_19 : fld RX4 19 = some (4, 2) := by decide +kernel
theorem rRX4_22 : fLink RX4 22 = some (arraycopyName, none) ∧ okw (.methodLink RX4 22 arraycopyName) = true := ⟨by decide +kernel, by decide +kernel⟩
theorem rRX4_28 : rsl 1 RX4 28 = some (MX4_hasPlace, 1) := by decide +kernel
theorem kRX4_32 : fCst RX4 32 = some (-1000000005) ∧ okw (.constant RX4 32 (-1000000005)) = true := ⟨by decide +kernel, by decide +kernel⟩
theorem rRX4_33 : rsl 0 RX4 33 = some (MX7_within, 3) := by decide +kernel
theorem rRX5_3 : fLink RX5 3 = some (Lib.objectInit, none) ∧ okw (.methodLink RX5 3 Lib.objectInit) = true := ⟨by decide +kernel, by decide +kernel⟩
theorem nRX5_9 : nwc RX5 9 = some 1 := by decide +kernel
theorem rRX5_11 : rsl 2 RX5 11 = some (MX1_init, 0) := by decide +kernel
theorem fRX5_12 : fld RX5 12 = some (5, 0) := by decide +kernel
theorem nRX5_18 : nwc RX5 18 = some 4 := by decide +kernel
theorem rRX5_20 : rsl 2 RX5 20 = some (MX4_init, 0) := by decide +kernel
theorem fRX5_21 : fld RX5 21 = some (5, 1) := by decide +kernel
theorem fRX5_25 : fld RX5 25 = some (5, 2) := by decide +kernel
theorem fRX5_29 : fld RX5 29 = some (5, 3) := by decide +kernel
theorem kRX5_32 : fCst RX5 32 = some (-1000000011) ∧ okw (.constant RX5 32 (-1000000011)) = true := ⟨by decide +kernel, by decide +kernel⟩
theorem kRX5_33 : fCst RX5 33 = some (-1000000012) ∧ okw (.constant RX5 33 (-1000000012)) = true := ⟨by decide +kernel, by decide +kernel⟩
theorem rRX6_3 : fLink RX6 3 = some (Lib.objectInit, none) ∧ okw (.methodLink RX6 3 Lib.objectInit) = true := ⟨by decide +kernel, by decide +kernel⟩
theorem fRX6_9 : fld RX6 9 = some (6, 0) := by decide +kernel
theorem fRX6_15 : fld RX6 15 = some (6, 1) := by decide +kernel
theorem kRJ6_265 : fCst RJ6 265 = some (1431655765) ∧ okw (.constant RJ6 265 (1431655765)) = true := ⟨by decide +kernel, by decide +kernel⟩
theorem kRJ6_266 : fCst RJ6 266 = some (858993459) ∧ okw (.constant RJ6 266 (858993459)) = true := ⟨by decide +kernel, by decide +kernel⟩
theorem kRJ6_267 : fCst RJ6 267 = some (252645135) ∧ okw (.constant RJ6 267 (252645135)) = true := ⟨by decide +kernel, by decide +kernel⟩
theorem fRJ0_9 : fld RJ0 9 = some (20, 1) := by decide +kernel
theorem rRJ0_335 : rsl 1 RJ0 335 = some (MJ0_coder_7d493, 0) := by decide +kernel
theorem rRJ0_492 : rsl 1 RJ0 492 = some (MJ0_isLatin1_aae02, 0) := by decide +kernel
theorem rRJ0_495 : rsl 0 RJ0 495 = some (MJ1_charAt_3b067, 2) := by decide +kernel
theorem rRJ0_633 : rsl 1 RJ0 633 = some (MJ0_indexOf_7cf53, 2) := by decide +kernel
theorem rRJ0_505 : rsl 1 RJ0 505 = some (MJ0_length_8abf5, 0) := by decide +kernel
theorem rRJ0_637 : rsl 0 RJ0 637 = some (MJ1_indexOf_4cfef, 4) := by decide +kernel
theorem sRJ0_38 : sta RJ0 38 = some (vI 1) := by decide +kernel
theorem fRJ0_15 : fld RJ0 15 = some (20, 0) := by decide +kernel
theorem sRJ0_1053 : sta RJ0 1053 = some (vR 4 0 0) := by decide +kernel
theorem rRJ0_1059 : rsl 0 RJ0 1059 = some (MJ3_checkIndex_8e157, 3) := by decide +kernel
theorem rRJ1_9 : rsl 0 RJ1 9 = some (MJ0_checkIndex_df160, 2) := by decide +kernel
theorem rRJ1_88 : rsl 0 RJ1 88 = some (MJ1_canEncode_9a6ad, 1) := by decide +kernel
theorem rRJ1_92 : rsl 0 RJ1 92 = some (MJ9_max_7cf53, 2) := by decide +kernel
theorem rRJ1_38 : rsl 0 RJ1 38 = some (MJ9_min_7cf53, 2) := by decide +kernel
theorem rRJ1_95 : rsl 0 RJ1 95 = some (MJ1_indexOfChar_4cfef, 4) := by decide +kernel
theorem rRX7_1 : fLink RX7 1 = some (Lib.objectInit, none) ∧ okw (.methodLink RX7 1 Lib.objectInit) = true := ⟨by decide +kernel, by decide +kernel⟩
theorem nRX7_7 : nwc RX7 7 = some 3 := by decide +kernel
theorem rRX7_9 : rsl 2 RX7 9 = some (MX3_init, 0) := by decide +kernel
theorem fRX7_10 : fld RX7 10 = some (7, 0) := by decide +kernel
theorem fRX7_16 : fld RX7 16 = some (7, 1) := by decide +kernel
theorem fRX7_19 : fld RX7 19 = some (7, 2) := by decide +kernel
theorem fRX7_22 : fld RX7 22 = some (7, 3) := by decide +kernel
theorem nRX7_25 : nwc RX7 25 = some 2 := by decide +kernel
theorem rRX7_27 : rsl 2 RX7 27 = some (MX2_init, 0) := by decide +kernel
theorem fRX7_28 : fld RX7 28 = some (7, 4) := by decide +kernel
theorem nRX7_32 : nwa RX7 32 = some 16 := by decide +kernel
theorem fRX7_34 : fld RX7 34 = some (7, 5) := by decide +kernel
theorem nRX7_38 : nwa RX7 38 = some 17 := by decide +kernel
theorem fRX7_40 : fld RX7 40 = some (7, 6) := by decide +kernel
theorem fRX7_44 : fld RX7 44 = some (7, 7) := by decide +kernel
theorem fRX7_48 : fld RX7 48 = some (7, 8) := by decide +kernel
theorem fRX7_52 : fld RX7 52 = some (7, 9) := by decide +kernel
theorem nRX7_32 : nwc RX7 32 = some 4 := by decide +kernel
theorem rRX7_56 : rsl 2 RX7 56 = some (MX4_init, 0) := by decide +kernel
theorem nRX7_38 : nwc RX7 38 = some 5 := by decide +kernel
theorem rRX7_57 : rsl 2 RX7 57 = some (MX5_init, 0) := by decide +kernel
theorem rRX7_58 : rsl 0 RX7 58 = some (MX7_isKind, 1) := by decide +kernel
theorem rRX7_62 : rsl 0 RX7 62 = some (MX7_isLetter, 1) := by decide +kernel
theorem rRX7_65 : rsl 0 RX7 65 = some (MX7_isMass, 1) := by decide +kernel
theorem kRX7_68 : fCst RX7 68 = some (-1000000001) ∧ okw (.constant RX7 68 (-1000000001)) = true := ⟨by decide +kernel, by decide +kernel⟩
theorem rRX7_69 : rsl 1 RX7 69 = some (MX3_addLog, 3) := by decide +kernel
theorem fRX7_73 : fld RX7 73 = some (3, 6) := by decide +kernel
theorem kRX7_76 : fCst RX7 76 = some (-1000000003) ∧ okw (.constant RX7 76 (-1000000003)) = true := ⟨by decide +kernel, by decide +kernel⟩
theorem rRX7_77 : rsl 1 RX7 77 = some (MX3_hasLog, 1) := by decide +kernel
theorem fRX7_80 : fld RX7 80 = some (3, 0) := by decide +kernel
theorem fRX7_84 : fld RX7 84 = some (1, 0) := by decide +kernel
theorem fRX7_89 : fld RX7 89 = some (1, 1) := by decide +kernel
theorem fRX7_92 : fld RX7 92 = some (1, 2) := by decide +kernel
theorem fRX7_95 : fld RX7 95 = some (1, 3) := by decide +kernel
theorem fRX7_98 : fld RX7 98 = some (1, 4) := by decide +kernel
theorem rRX7_101 : rsl 1 RX7 101 = some (MX3_lawFor, 1) := by decide +kernel
theorem rRX7_105 : rsl 1 RX7 105 = some (MX3_driftOf, 2) := by decide +kernel
theorem fRX7_109 : fld RX7 109 = some (3, 10) := by decide +kernel
theorem rRX7_112 : rsl 1 RX7 112 = some (MX1_claimedBy, 1) := by decide +kernel
theorem rRX7_116 : rsl 1 RX7 116 = some (MX1_worth, 0) := by decide +kernel
theorem rRX7_120 : rsl 1 RX7 120 = some (MX1_isOf, 1) := by decide +kernel
theorem kRX7_123 : fCst RX7 123 = some (-1000000012) ∧ okw (.constant RX7 123 (-1000000012)) = true := ⟨by decide +kernel, by decide +kernel⟩
theorem rRX7_124 : rsl 0 RX7 124 = some (MX7_isReach, 1) := by decide +kernel
theorem kRX7_127 : fCst RX7 127 = some (-1000000002) ∧ okw (.constant RX7 127 (-1000000002)) = true := ⟨by decide +kernel, by decide +kernel⟩
theorem rRX7_128 : rsl 0 RX7 128 = some (MX7_within, 3) := by decide +kernel
theorem fRX7_131 : fld RX7 131 = some (3, 1) := by decide +kernel
theorem fRX7_134 : fld RX7 134 = some (3, 2) := by decide +kernel
theorem fRX7_137 : fld RX7 137 = some (3, 11) := by decide +kernel
theorem fRX7_140 : fld RX7 140 = some (3, 9) := by decide +kernel
theorem rRX7_143 : rsl 1 RX7 143 = some (MX3_addLetter, 1) := by decide +kernel
theorem fRX7_146 : fld RX7 146 = some (3, 7) := by decide +kernel
theorem rRX7_149 : rsl 0 RX7 149 = some (MJ9_min_7cf53, 2) := by decide +kernel
theorem rRX7_155 : rsl 1 RX7 155 = some (MX3_drawLog, 0) := by decide +kernel
theorem fRX7_158 : fld RX7 158 = some (3, 15) := by decide +kernel
theorem fRX7_161 : fld RX7 161 = some (3, 13) := by decide +kernel
theorem fRX7_164 : fld RX7 164 = some (3, 14) := by decide +kernel
theorem rRX7_167 : rsl 1 RX7 167 = some (MX3_passWeeks, 1) := by decide +kernel
theorem rRX7_171 : rsl 1 RX7 171 = some (MX3_letterRead, 1) := by decide +kernel
theorem rRX7_174 : rsl 1 RX7 174 = some (MX3_spelt, 0) := by decide +kernel
theorem rRX7_177 : rsl 1 RX7 177 = some (MX3_jammed, 0) := by decide +kernel
theorem fRX7_180 : fld RX7 180 = some (3, 12) := by decide +kernel
theorem rRX7_183 : rsl 1 RX7 183 = some (MX3_afloat, 0) := by decide +kernel
theorem rRX7_186 : rsl 1 RX7 186 = some (MX7_startThought, 0) := by decide +kernel
theorem rRX7_189 : rsl 1 RX7 189 = some (MX3_passWeek, 0) := by decide +kernel
theorem kRX7_192 : fCst RX7 192 = some (-1000000005) ∧ okw (.constant RX7 192 (-1000000005)) = true := ⟨by decide +kernel, by decide +kernel⟩
theorem rRX7_193 : rsl 1 RX7 193 = some (MX1_isAfloat, 0) := by decide +kernel
theorem rRX7_197 : rsl 1 RX7 197 = some (MX7_startThoughtWithout, 1) := by decide +kernel
theorem rRX7_200 : rsl 1 RX7 200 = some (MX3_takeOver, 1) := by decide +kernel
theorem rRX7_204 : rsl 0 RX7 204 = some (MX7_isSheet, 1) := by decide +kernel
theorem rRX7_207 : rsl 1 RX7 207 = some (MX4_isMissing, 0) := by decide +kernel
theorem kRX7_210 : fCst RX7 210 = some (-1000000011) ∧ okw (.constant RX7 210 (-1000000011)) = true := ⟨by decide +kernel, by decide +kernel⟩
theorem kRX7_213 : fCst RX7 213 = some (2147483647) ∧ okw (.constant RX7 213 (2147483647)) = true := ⟨by decide +kernel, by decide +kernel⟩
theorem rRX7_214 : rsl 1 RX7 214 = some (MX7_apartWithMass, 3) := by decide +kernel
theorem rRX7_218 : rsl 1 RX7 218 = some (MX0_give, 3) := by decide +kernel
theorem fRX7_224 : fld RX7 224 = some (2, 0) := by decide +kernel
theorem fRX7_228 : fld RX7 228 = some (6, 1) := by decide +kernel
theorem rRX7_233 : rsl 1 RX7 233 = some (MX6_addBytesOf, 1) := by decide +kernel
theorem rRX7_236 : rsl 1 RX7 236 = some (MX2_readLaw, 0) := by decide +kernel
theorem fRX7_240 : fld RX7 240 = some (2, 3) := by decide +kernel
theorem rRX7_243 : rsl 1 RX7 243 = some (MX3_addLaw, 1) := by decide +kernel
theorem fRX7_247 : fld RX7 247 = some (3, 8) := by decide +kernel
theorem rRX7_250 : rsl 1 RX7 250 = some (MX3_lawAt, 1) := by decide +kernel
theorem fRX7_253 : fld RX7 253 = some (0, 0) := by decide +kernel
theorem fRX7_256 : fld RX7 256 = some (0, 1) := by decide +kernel
theorem rRX7_259 : rsl 1 RX7 259 = some (MX3_lawNumberFor, 1) := by decide +kernel
theorem kRX7_262 : fCst RX7 262 = some (-1000000014) ∧ okw (.constant RX7 262 (-1000000014)) = true := ⟨by decide +kernel, by decide +kernel⟩
theorem rRX7_263 : rsl 1 RX7 263 = some (MX4_become, 2) := by decide +kernel
theorem fRX7_267 : fld RX7 267 = some (4, 2) := by decide +kernel
theorem rRX7_268 : rsl 1 RX7 268 = some (MX4_hasPlace, 1) := by decide +kernel
theorem kRX7_271 : fCst RX7 271 = some (-1000000013) ∧ okw (.constant RX7 271 (-1000000013)) = true := ⟨by decide +kernel, by decide +kernel⟩
theorem fRX7_272 : fld RX7 272 = some (4, 1) := by decide +kernel
theorem fRX7_275 : fld RX7 275 = some (4, 0) := by decide +kernel
theorem kRX7_278 : fCst RX7 278 = some (-99999) ∧ okw (.constant RX7 278 (-99999)) = true := ⟨by decide +kernel, by decide +kernel⟩
theorem kRX7_279 : fCst RX7 279 = some (99999) ∧ okw (.constant RX7 279 (99999)) = true := ⟨by decide +kernel, by decide +kernel⟩
theorem rRX7_280 : rsl 1 RX7 280 = some (MX4_hasNumber, 1) := by decide +kernel
theorem rRX7_283 : rsl 0 RX7 283 = some (MX7_hold, 3) := by decide +kernel
theorem rRX7_286 : rsl 1 RX7 286 = some (MX4_hasPlaces, 2) := by decide +kernel
theorem rRX7_290 : fLink RX7 290 = some (arraycopyName, none) ∧ okw (.methodLink RX7 290 arraycopyName) = true := ⟨by decide +kernel, by decide +kernel⟩
theorem rRX7_296 : rsl 0 RX7 296 = some (MX7_isSlot, 1) := by decide +kernel
theorem fRX7_299 : fld RX7 299 = some (5, 2) := by decide +kernel
theorem fRX7_302 : fld RX7 302 = some (5, 0) := by decide +kernel
theorem rRX7_306 : rsl 1 RX7 306 = some (MX1_takeOver, 1) := by decide +kernel
theorem fRX7_309 : fld RX7 309 = some (5, 1) := by decide +kernel
theorem rRX7_313 : rsl 1 RX7 313 = some (MX4_takeOver, 1) := by decide +kernel
theorem fRX7_316 : fld RX7 316 = some (5, 3) := by decide +kernel
theorem rRX7_319 : rsl 1 RX7 319 = some (MX5_findingFor, 1) := by decide +kernel
theorem rRX7_322 : rsl 1 RX7 322 = some (MX7_isWaiting, 3) := by decide +kernel
theorem rRX7_325 : rsl 1 RX7 325 = some (MX3_reachesTogether, 0) := by decide +kernel
theorem rRX7_328 : rsl 0 RX7 328 = some (MJ9_abs_0f7a4, 1) := by decide +kernel
theorem rRX7_331 : rsl 0 RX7 331 = some (MJ9_max_7cf53, 2) := by decide +kernel
theorem rRX8_1 : fLink RX8 1 = some (Lib.objectInit, none) ∧ okw (.methodLink RX8 1 Lib.objectInit) = true := ⟨by decide +kernel, by decide +kernel⟩
theorem fRX8_9 : fld RX8 9 = some (8, 0) := by decide +kernel
theorem fRX8_13 : fld RX8 13 = some (8, 1) := by decide +kernel
theorem fRX8_16 : fld RX8 16 = some (8, 2) := by decide +kernel
theorem fRX8_19 : fld RX8 19 = some (8, 4) := by decide +kernel
theorem fRX8_22 : fld RX8 22 = some (8, 5) := by decide +kernel
theorem fRX8_25 : fld RX8 25 = some (8, 13) := by decide +kernel
theorem fRX8_29 : fld RX8 29 = some (8, 14) := by decide +kernel
theorem fRX8_32 : fld RX8 32 = some (8, 15) := by decide +kernel
theorem fRX8_35 : fld RX8 35 = some (8, 18) := by decide +kernel
theorem fRX8_38 : fld RX8 38 = some (8, 20) := by decide +kernel
theorem fRX8_42 : fld RX8 42 = some (8, 21) := by decide +kernel
theorem fRX8_45 : fld RX8 45 = some (8, 22) := by decide +kernel
theorem fRX8_48 : fld RX8 48 = some (8, 23) := by decide +kernel
theorem fRX8_51 : fld RX8 51 = some (8, 24) := by decide +kernel
theorem fRX8_54 : fld RX8 54 = some (8, 25) := by decide +kernel
theorem fRX8_57 : fld RX8 57 = some (8, 26) := by decide +kernel
theorem fRX8_60 : fld RX8 60 = some (8, 27) := by decide +kernel
theorem fRX8_63 : fld RX8 63 = some (8, 28) := by decide +kernel
theorem fRX8_66 : fld RX8 66 = some (8, 29) := by decide +kernel
theorem fRX8_69 : fld RX8 69 = some (8, 30) := by decide +kernel
theorem fRX8_72 : fld RX8 72 = some (8, 31) := by decide +kernel
theorem rRX8_75 : rsl 0 RX8 75 = some (MX8_in, 3) := by decide +kernel
theorem rRX8_79 : rsl 1 RX8 79 = some (MX8_put, 3) := by decide +kernel
theorem kRX8_83 : fCst RX8 83 = some (-1000000001) ∧ okw (.constant RX8 83 (-1000000001)) = true := ⟨by decide +kernel, by decide +kernel⟩
theorem kRX8_84 : fCst RX8 84 = some (-1000000003) ∧ okw (.constant RX8 84 (-1000000003)) = true := ⟨by decide +kernel, by decide +kernel⟩
theorem rRX8_85 : rsl 1 RX8 85 = some (MX8_comes, 3) := by decide +kernel
theorem rRX8_89 : rsl 1 RX8 89 = some (MX8_counts, 1) := by decide +kernel
theorem rRX8_93 : rsl 1 RX8 93 = some (MX8_of, 2) := by decide +kernel
theorem rRX8_97 : rsl 1 RX8 97 = some (MX8_worksOut, 1) := by decide +kernel
theorem rRX8_100 : rsl 0 RX8 100 = some (MX8_within, 3) := by decide +kernel
theorem rRX8_103 : rsl 1 RX8 103 = some (MX8_isLog, 1) := by decide +kernel
theorem rRX8_107 : rsl 1 RX8 107 = some (MX8_driftsOf, 1) := by decide +kernel
theorem rRX8_110 : rsl 1 RX8 110 = some (MX8_claimedOf, 1) := by decide +kernel
theorem rRX8_113 : rsl 1 RX8 113 = some (MX8_worthOf, 1) := by decide +kernel
theorem rRX8_116 : rsl 0 RX8 116 = some (MX8_isUnder, 2) := by decide +kernel
theorem kRX8_120 : fCst RX8 120 = some (-1000000012) ∧ okw (.constant RX8 120 (-1000000012)) = true := ⟨by decide +kernel, by decide +kernel⟩
theorem rRX8_121 : rsl 1 RX8 121 = some (MX8_becomes, 2) := by decide +kernel
theorem rRX8_124 : rsl 0 RX8 124 = some (MX8_isReach, 1) := by decide +kernel
theorem kRX8_127 : fCst RX8 127 = some (-1000000002) ∧ okw (.constant RX8 127 (-1000000002)) = true := ⟨by decide +kernel, by decide +kernel⟩
theorem kRX8_128 : fCst RX8 128 = some (1103515245) ∧ okw (.constant RX8 128 (1103515245)) = true := ⟨by decide +kernel, by decide +kernel⟩
theorem rRX8_129 : rsl 1 RX8 129 = some (MX8_draw, 0) := by decide +kernel
theorem rRX8_133 : rsl 1 RX8 133 = some (MX8_manyAt, 1) := by decide +kernel
theorem rRX8_136 : rsl 1 RX8 136 = some (MX8_goesDown, 1) := by decide +kernel
theorem rRX8_140 : rsl 1 RX8 140 = some (MX8_saws, 0) := by decide +kernel
theorem rRX8_143 : rsl 1 RX8 143 = some (MX8_week, 0) := by decide +kernel
theorem rRX8_146 : rsl 1 RX8 146 = some (MX8_goesOn, 1) := by decide +kernel
theorem kRX8_149 : fCst RX8 149 = some (-1000000005) ∧ okw (.constant RX8 149 (-1000000005)) = true := ⟨by decide +kernel, by decide +kernel⟩
theorem rRX8_150 : rsl 1 RX8 150 = some (MX8_spelt, 0) := by decide +kernel
theorem rRX8_153 : rsl 1 RX8 153 = some (MX8_jam, 0) := by decide +kernel
theorem rRX8_156 : rsl 1 RX8 156 = some (MX8_thinks, 0) := by decide +kernel
theorem rRX8_159 : rsl 1 RX8 159 = some (MX8_putsBack, 0) := by decide +kernel
theorem rRX8_162 : rsl 1 RX8 162 = some (MX8_comeBehind, 1) := by decide +kernel
theorem rRX8_165 : rsl 1 RX8 165 = some (MX8_speltBehind, 1) := by decide +kernel
theorem rRX8_168 : rsl 0 RX8 168 = some (MX8_isSheet, 1) := by decide +kernel
theorem kRX8_171 : fCst RX8 171 = some (-1000000011) ∧ okw (.constant RX8 171 (-1000000011)) = true := ⟨by decide +kernel, by decide +kernel⟩
theorem rRX8_172 : rsl 1 RX8 172 = some (MX8_offBy, 3) := by decide +kernel
theorem fRX8_176 : fld RX8 176 = some (8, 6) := by decide +kernel
theorem fRX8_180 : fld RX8 180 = some (8, 7) := by decide +kernel
theorem fRX8_183 : fld RX8 183 = some (8, 8) := by decide +kernel
theorem fRX8_186 : fld RX8 186 = some (8, 11) := by decide +kernel
theorem fRX8_189 : fld RX8 189 = some (8, 9) := by decide +kernel
theorem rRX8_192 : rsl 1 RX8 192 = some (MX8_isLetter, 1) := by decide +kernel
theorem fRX8_195 : fld RX8 195 = some (8, 10) := by decide +kernel
theorem rRX8_198 : rsl 1 RX8 198 = some (MX8_isFigure, 1) := by decide +kernel
theorem fRX8_201 : fld RX8 201 = some (8, 12) := by decide +kernel
theorem rRX8_204 : rsl 1 RX8 204 = some (MX8_go, 0) := by decide +kernel
theorem fRX8_207 : fld RX8 207 = some (8, 19) := by decide +kernel
theorem rRX8_210 : rsl 0 RX8 210 = some (MX8_rank, 1) := by decide +kernel
theorem fRX8_213 : fld RX8 213 = some (8, 16) := by decide +kernel
theorem rRX8_216 : rsl 1 RX8 216 = some (MX8_nameOf, 1) := by decide +kernel
theorem fRX8_219 : fld RX8 219 = some (8, 17) := by decide +kernel
theorem rRX8_222 : rsl 1 RX8 222 = some (MX8_settle, 1) := by decide +kernel
theorem rRX8_225 : rsl 1 RX8 225 = some (MX8_takesPart, 0) := by decide +kernel
theorem rRX8_229 : rsl 1 RX8 229 = some (MX8_notsOpen, 0) := by decide +kernel
theorem rRX8_232 : rsl 1 RX8 232 = some (MX8_signHere, 0) := by decide +kernel
theorem rRX8_235 : rsl 1 RX8 235 = some (MX8_takesKey, 0) := by decide +kernel
theorem rRX8_238 : rsl 1 RX8 238 = some (MX8_takesE, 0) := by decide +kernel
theorem rRX8_241 : rsl 0 RX8 241 = some (MX8_two, 3) := by decide +kernel
theorem kRX8_244 : fCst RX8 244 = some (-1000000014) ∧ okw (.constant RX8 244 (-1000000014)) = true := ⟨by decide +kernel, by decide +kernel⟩
theorem kRX8_245 : fCst RX8 245 = some (-1000000013) ∧ okw (.constant RX8 245 (-1000000013)) = true := ⟨by decide +kernel, by decide +kernel⟩
theorem kRX8_246 : fCst RX8 246 = some (-99999) ∧ okw (.constant RX8 246 (-99999)) = true := ⟨by decide +kernel, by decide +kernel⟩
theorem kRX8_247 : fCst RX8 247 = some (99999) ∧ okw (.constant RX8 247 (99999)) = true := ⟨by decide +kernel, by decide +kernel⟩
theorem rRX8_248 : rsl 0 RX8 248 = some (MX8_isSlot, 1) := by decide +kernel
theorem fRX8_251 : fld RX8 251 = some (8, 32) := by decide +kernel
theorem fRX8_254 : fld RX8 254 = some (8, 3) := by decide +kernel
theorem rRX8_258 : rsl 0 RX8 258 = some (MX8_copyAll, 2) := by decide +kernel
theorem rRX8_262 : rsl 1 RX8 262 = some (MX8_allReaches, 0) := by decide +kernel
theorem nRL_7 : nwc ML_law.2.1.cls 7 = some 7 := by decide +kernel
theorem rRL_9 : rsl 2 ML_law.2.1.cls 9 = some (MX7_init, 0) := by decide +kernel
theorem nRL_10 : nwc ML_law.2.1.cls 10 = some 8 := by decide +kernel
theorem rRL_12 : rsl 2 ML_law.2.1.cls 12 = some (MX8_init, 0) := by decide +kernel
theorem rRL_13 : rsl 1 ML_law.2.1.cls 13 = some (MX7_log, 3) := by decide +kernel
theorem rRL_17 : rsl 1 ML_law.2.1.cls 17 = some (MX8_log, 3) := by decide +kernel
theorem rRL_18 : rsl 1 ML_law.2.1.cls 18 = some (MX7_told, 2) := by decide +kernel
theorem rRL_22 : rsl 1 ML_law.2.1.cls 22 = some (MX8_told, 2) := by decide +kernel
theorem rRL_23 : rsl 1 ML_law.2.1.cls 23 = some (MX7_as, 2) := by decide +kernel
theorem rRL_26 : rsl 1 ML_law.2.1.cls 26 = some (MX8_as, 2) := by decide +kernel
theorem rRL_27 : rsl 1 ML_law.2.1.cls 27 = some (MX7_turns, 2) := by decide +kernel
theorem rRL_30 : rsl 1 ML_law.2.1.cls 30 = some (MX8_turns, 2) := by decide +kernel
theorem rRL_31 : rsl 1 ML_law.2.1.cls 31 = some (MX7_set, 3) := by decide +kernel
theorem rRL_34 : rsl 1 ML_law.2.1.cls 34 = some (MX8_set, 3) := by decide +kernel
theorem rRL_35 : rsl 1 ML_law.2.1.cls 35 = some (MX7_lays, 2) := by decide +kernel
theorem rRL_38 : rsl 1 ML_law.2.1.cls 38 = some (MX8_lays, 2) := by decide +kernel
theorem rRL_39 : rsl 1 ML_law.2.1.cls 39 = some (MX7_reach, 3) := by decide +kernel
theorem rRL_42 : rsl 1 ML_law.2.1.cls 42 = some (MX8_reach, 3) := by decide +kernel
theorem rRL_43 : rsl 1 ML_law.2.1.cls 43 = some (MX7_rule, 2) := by decide +kernel
theorem rRL_46 : rsl 1 ML_law.2.1.cls 46 = some (MX8_rule, 2) := by decide +kernel
theorem rRL_47 : rsl 1 ML_law.2.1.cls 47 = some (MX7_word, 1) := by decide +kernel
theorem rRL_51 : rsl 1 ML_law.2.1.cls 51 = some (MX8_word, 1) := by decide +kernel
theorem rRL_52 : rsl 1 ML_law.2.1.cls 52 = some (MX7_unword, 0) := by decide +kernel
theorem rRL_56 : rsl 1 ML_law.2.1.cls 56 = some (MX8_unword, 0) := by decide +kernel
theorem rRL_57 : rsl 1 ML_law.2.1.cls 57 = some (MX7_deal, 1) := by decide +kernel
theorem rRL_60 : rsl 1 ML_law.2.1.cls 60 = some (MX8_deal, 1) := by decide +kernel
theorem rRL_61 : rsl 1 ML_law.2.1.cls 61 = some (MX7_seed, 1) := by decide +kernel
theorem rRL_64 : rsl 1 ML_law.2.1.cls 64 = some (MX8_seed, 1) := by decide +kernel
theorem rRL_65 : rsl 1 ML_law.2.1.cls 65 = some (MX7_weeks, 1) := by decide +kernel
theorem rRL_68 : rsl 1 ML_law.2.1.cls 68 = some (MX8_weeks, 1) := by decide +kernel
theorem rRL_69 : rsl 1 ML_law.2.1.cls 69 = some (MX7_read, 1) := by decide +kernel
theorem rRL_72 : rsl 1 ML_law.2.1.cls 72 = some (MX8_read, 1) := by decide +kernel
theorem rRL_73 : rsl 1 ML_law.2.1.cls 73 = some (MX7_river, 1) := by decide +kernel
theorem rRL_76 : rsl 1 ML_law.2.1.cls 76 = some (MX8_river, 1) := by decide +kernel
theorem rRL_77 : rsl 1 ML_law.2.1.cls 77 = some (MX7_behind, 2) := by decide +kernel
theorem rRL_80 : rsl 1 ML_law.2.1.cls 80 = some (MX8_behind, 2) := by decide +kernel
theorem rRL_81 : rsl 1 ML_law.2.1.cls 81 = some (MX7_whole, 0) := by decide +kernel
theorem rRL_84 : rsl 1 ML_law.2.1.cls 84 = some (MX8_whole, 0) := by decide +kernel
theorem rRL_85 : rsl 1 ML_law.2.1.cls 85 = some (MX7_frees, 2) := by decide +kernel
theorem rRL_88 : rsl 1 ML_law.2.1.cls 88 = some (MX8_frees, 2) := by decide +kernel
theorem rRL_89 : rsl 1 ML_law.2.1.cls 89 = some (MX7_lost, 1) := by decide +kernel
theorem rRL_92 : rsl 1 ML_law.2.1.cls 92 = some (MX8_lost, 1) := by decide +kernel
theorem rRL_93 : rsl 1 ML_law.2.1.cls 93 = some (MX7_wider, 2) := by decide +kernel
theorem rRL_96 : rsl 1 ML_law.2.1.cls 96 = some (MX8_wider, 2) := by decide +kernel
theorem rRL_97 : rsl 1 ML_law.2.1.cls 97 = some (MX7_opened, 1) := by decide +kernel
theorem rRL_100 : rsl 1 ML_law.2.1.cls 100 = some (MX8_opened, 1) := by decide +kernel
theorem rRL_101 : rsl 1 ML_law.2.1.cls 101 = some (MX7_rolled, 2) := by decide +kernel
theorem rRL_104 : rsl 1 ML_law.2.1.cls 104 = some (MX8_rolled, 2) := by decide +kernel
theorem rRL_105 : rsl 1 ML_law.2.1.cls 105 = some (MX7_looked, 3) := by decide +kernel
theorem rRL_108 : rsl 1 ML_law.2.1.cls 108 = some (MX8_looked, 3) := by decide +kernel
theorem rRL_109 : rsl 1 ML_law.2.1.cls 109 = some (MX7_fee, 0) := by decide +kernel
theorem rRL_112 : rsl 1 ML_law.2.1.cls 112 = some (MX8_fee, 0) := by decide +kernel
theorem rRL_113 : rsl 1 ML_law.2.1.cls 113 = some (MX7_fine, 1) := by decide +kernel
theorem rRL_116 : rsl 1 ML_law.2.1.cls 116 = some (MX8_fine, 1) := by decide +kernel
theorem rRL_117 : rsl 1 ML_law.2.1.cls 117 = some (MX7_feed, 3) := by decide +kernel
theorem rRL_120 : rsl 1 ML_law.2.1.cls 120 = some (MX8_feed, 3) := by decide +kernel
theorem rRL_121 : rsl 1 ML_law.2.1.cls 121 = some (MX7_trim, 1) := by decide +kernel
theorem rRL_124 : rsl 1 ML_law.2.1.cls 124 = some (MX8_trim, 1) := by decide +kernel
theorem rRL_125 : rsl 1 ML_law.2.1.cls 125 = some (MX7_text, 0) := by decide +kernel
theorem rRL_128 : rsl 1 ML_law.2.1.cls 128 = some (MX8_text, 0) := by decide +kernel
theorem rRL_129 : rsl 1 ML_law.2.1.cls 129 = some (MX7_textTold, 2) := by decide +kernel
theorem rRL_132 : rsl 1 ML_law.2.1.cls 132 = some (MX8_textTold, 2) := by decide +kernel
theorem rRL_133 : rsl 1 ML_law.2.1.cls 133 = some (MX7_why, 1) := by decide +kernel
theorem rRL_136 : rsl 1 ML_law.2.1.cls 136 = some (MX8_why, 1) := by decide +kernel
theorem rRL_137 : rsl 1 ML_law.2.1.cls 137 = some (MX7_sheet, 3) := by decide +kernel
theorem rRL_140 : rsl 1 ML_law.2.1.cls 140 = some (MX8_sheet, 3) := by decide +kernel
theorem rRL_141 : rsl 1 ML_law.2.1.cls 141 = some (MX7_mark, 3) := by decide +kernel
theorem rRL_144 : rsl 1 ML_law.2.1.cls 144 = some (MX8_mark, 3) := by decide +kernel
theorem rRL_145 : rsl 1 ML_law.2.1.cls 145 = some (MX7_pour, 1) := by decide +kernel
theorem rRL_148 : rsl 1 ML_law.2.1.cls 148 = some (MX8_pour, 1) := by decide +kernel
theorem rRL_149 : rsl 1 ML_law.2.1.cls 149 = some (MX7_reads, 1) := by decide +kernel
theorem rRL_152 : rsl 1 ML_law.2.1.cls 152 = some (MX8_reads, 1) := by decide +kernel
theorem rRL_153 : rsl 1 ML_law.2.1.cls 153 = some (MX7_copy, 5) := by decide +kernel
theorem rRL_157 : rsl 1 ML_law.2.1.cls 157 = some (MX8_copy, 5) := by decide +kernel
theorem rRL_158 : rsl 1 ML_law.2.1.cls 158 = some (MX7_lay, 3) := by decide +kernel
theorem rRL_161 : rsl 1 ML_law.2.1.cls 161 = some (MX8_lay, 3) := by decide +kernel
theorem rRL_162 : rsl 1 ML_law.2.1.cls 162 = some (MX7_ask, 2) := by decide +kernel
theorem rRL_165 : rsl 1 ML_law.2.1.cls 165 = some (MX8_ask, 2) := by decide +kernel
theorem rRL_166 : rsl 1 ML_law.2.1.cls 166 = some (MX7_item, 2) := by decide +kernel
theorem rRL_169 : rsl 1 ML_law.2.1.cls 169 = some (MX8_item, 2) := by decide +kernel
theorem rRL_170 : rsl 1 ML_law.2.1.cls 170 = some (MX7_rest, 2) := by decide +kernel
theorem rRL_173 : rsl 1 ML_law.2.1.cls 173 = some (MX8_rest, 2) := by decide +kernel
theorem rRL_174 : rsl 1 ML_law.2.1.cls 174 = some (MX7_tell, 1) := by decide +kernel
theorem rRL_177 : rsl 1 ML_law.2.1.cls 177 = some (MX8_tell, 1) := by decide +kernel
theorem rRL_178 : rsl 1 ML_law.2.1.cls 178 = some (MX7_check, 1) := by decide +kernel
theorem rRL_181 : rsl 1 ML_law.2.1.cls 181 = some (MX8_check, 1) := by decide +kernel
theorem rRL_182 : rsl 1 ML_law.2.1.cls 182 = some (MX7_keep, 0) := by decide +kernel
theorem rRL_185 : rsl 1 ML_law.2.1.cls 185 = some (MX8_keep, 0) := by decide +kernel
theorem rRL_186 : rsl 1 ML_law.2.1.cls 186 = some (MX7_back, 0) := by decide +kernel
theorem rRL_189 : rsl 1 ML_law.2.1.cls 189 = some (MX8_back, 0) := by decide +kernel
theorem rRL_190 : rsl 1 ML_law.2.1.cls 190 = some (MX7_count, 1) := by decide +kernel
theorem rRL_193 : rsl 1 ML_law.2.1.cls 193 = some (MX8_count, 1) := by decide +kernel
