def mX0_startAnew : ZM := (yX0_startAnew, cX0_startAnew, 1, none, { frames := 2, cells := 0, slots := 0, locals := 43 })
def mX0_copyFrom : ZM := (yX0_copyFrom, cX0_copyFrom, 3, none, { frames := 2, cells := 0, slots := 0, locals := 61 })
def mX0_hasSpud : ZM := (yX0_hasSpud, cX0_hasSpud, 2, (some .boolean), { frames := 0, cells := 0, slots := 0, locals := 0 })
def mX0_bring : ZM := (yX0_bring, cX0_bring, 3, (some .boolean), { frames := 1, cells := 0, slots := 0, locals := 22 })
def mX0_whoLiesIn : ZM := (yX0_whoLiesIn, cX0_whoLiesIn, 3, (some .int), { frames := 0, cells := 0, slots := 0, locals := 0 })
def mX0_noteFelt : ZM := (yX0_noteFelt, cX0_noteFelt, 4, (some .boolean), { frames := 0, cells := 0, slots := 0, locals := 0 })
def mX0_passRound : ZM := (yX0_passRound, cX0_passRound, 2, none, { frames := 4, cells := 0, slots := 0, locals := 87 })
def mX0_passRounds : ZM := (yX0_passRounds, cX0_passRounds, 3, none, { frames := 5, cells := 0, slots := 0, locals := 108 })
def mX0_meddle : ZM := (yX0_meddle, cX0_meddle, 3, none, { frames := 2, cells := 0, slots := 0, locals := 41 })
def mX0_tally : ZM := (yX0_tally, cX0_tally, 4, (some .int), { frames := 4, cells := 0, slots := 0, locals := 82 })
def mX0_isOfKind : ZM := (yX0_isOfKind, cX0_isOfKind, 2, (some .boolean), { frames := 3, cells := 0, slots := 0, locals := 61 })
def mX0_mostWanted : ZM := (yX0_mostWanted, cX0_mostWanted, 5, (some .int), { frames := 4, cells := 0, slots := 0, locals := 81 })
def mX1_search : ZM := (yX1_search, cX1_search, 7, none, { frames := 3, cells := 0, slots := 0, locals := 67 })
def mX1_sift : ZM := (yX1_sift, cX1_sift, 4, none, { frames := 0, cells := 0, slots := 0, locals := 0 })
def mX1_sumUp : ZM := (yX1_sumUp, cX1_sumUp, 2, none, { frames := 0, cells := 0, slots := 0, locals := 0 })
def mX2_becomeCold : ZM := (yX2_becomeCold, cX2_becomeCold, 1, none, { frames := 1, cells := 0, slots := 0, locals := 23 })
def mX2_copyFrom : ZM := (yX2_copyFrom, cX2_copyFrom, 2, none, { frames := 1, cells := 0, slots := 0, locals := 40 })
def mX2_placeCount : ZM := (yX2_placeCount, cX2_placeCount, 1, (some .int), { frames := 0, cells := 0, slots := 0, locals := 0 })
def mX2_hasCell : ZM := (yX2_hasCell, cX2_hasCell, 2, (some .boolean), { frames := 0, cells := 0, slots := 0, locals := 0 })
def mX2_hasPlace : ZM := (yX2_hasPlace, cX2_hasPlace, 2, (some .boolean), { frames := 1, cells := 0, slots := 0, locals := 20 })
def mX2_heatAt : ZM := (yX2_heatAt, cX2_heatAt, 2, (some .int), { frames := 2, cells := 0, slots := 0, locals := 41 })
def mX2_isRimPlace : ZM := (yX2_isRimPlace, cX2_isRimPlace, 2, (some .boolean), { frames := 0, cells := 0, slots := 0, locals := 0 })
def mX2_lossAt : ZM := (yX2_lossAt, cX2_lossAt, 2, (some .int), { frames := 1, cells := 0, slots := 0, locals := 21 })
def mX2_layWood : ZM := (yX2_layWood, cX2_layWood, 4, (some .boolean), { frames := 0, cells := 0, slots := 0, locals := 0 })
def mX2_burnWood : ZM := (yX2_burnWood, cX2_burnWood, 3, none, { frames := 3, cells := 0, slots := 0, locals := 65 })
def mX2_becomeEmber : ZM := (yX2_becomeEmber, cX2_becomeEmber, 5, none, { frames := 2, cells := 0, slots := 0, locals := 41 })
def mX2_coolDown : ZM := (yX2_coolDown, cX2_coolDown, 2, none, { frames := 2, cells := 0, slots := 0, locals := 42 })
def mX2_allHeat : ZM := (yX2_allHeat, cX2_allHeat, 3, (some .int), { frames := 1, cells := 0, slots := 0, locals := 20 })
def mX2_emberShare : ZM := (yX2_emberShare, cX2_emberShare, 2, (some .int), { frames := 0, cells := 0, slots := 0, locals := 0 })
def mX3_survey : ZM := (yX3_survey, cX3_survey, 6, none, { frames := 4, cells := 0, slots := 0, locals := 90 })
def mX3_surveyWrap : ZM := (yX3_surveyWrap, cX3_surveyWrap, 8, none, { frames := 2, cells := 0, slots := 0, locals := 44 })
def mX3_uniteReached : ZM := (yX3_uniteReached, cX3_uniteReached, 3, none, { frames := 0, cells := 0, slots := 0, locals := 0 })
def mX3_mostGood : ZM := (yX3_mostGood, cX3_mostGood, 7, (some .int), { frames := 1, cells := 0, slots := 0, locals := 21 })
def mX3_choose : ZM := (yX3_choose, cX3_choose, 5, none, { frames := 3, cells := 0, slots := 0, locals := 73 })
def mX3_firstPlace : ZM := (yX3_firstPlace, cX3_firstPlace, 7, (some .int), { frames := 2, cells := 0, slots := 0, locals := 47 })
def mX3_goodIn : ZM := (yX3_goodIn, cX3_goodIn, 3, (some .int), { frames := 0, cells := 0, slots := 0, locals := 0 })
def mX4_weight : ZM := (yX4_weight, cX4_weight, 5, (some .int), { frames := 1, cells := 0, slots := 0, locals := 20 })
def mX4_allWeights : ZM := (yX4_allWeights, cX4_allWeights, 5, (some .int), { frames := 2, cells := 0, slots := 0, locals := 44 })
def mX4_searchFullest : ZM := (yX4_searchFullest, cX4_searchFullest, 4, none, { frames := 3, cells := 0, slots := 0, locals := 68 })
def mX4_meanIn : ZM := (yX4_meanIn, cX4_meanIn, 5, (some .int), { frames := 2, cells := 0, slots := 0, locals := 44 })
def mX5_readAll : ZM := (yX5_readAll, cX5_readAll, 2, none, { frames := 9, cells := 0, slots := 0, locals := 192 })
def mX5_startAnew : ZM := (yX5_startAnew, cX5_startAnew, 1, none, { frames := 3, cells := 0, slots := 0, locals := 63 })
def mX5_allIsThere : ZM := (yX5_allIsThere, cX5_allIsThere, 1, (some .boolean), { frames := 2, cells := 0, slots := 0, locals := 41 })
def mX5_rememberCells : ZM := (yX5_rememberCells, cX5_rememberCells, 2, none, { frames := 0, cells := 0, slots := 0, locals := 0 })
def mX5_readLine : ZM := (yX5_readLine, cX5_readLine, 1, none, { frames := 8, cells := 0, slots := 0, locals := 172 })
def mX5_readFire : ZM := (yX5_readFire, cX5_readFire, 1, none, { frames := 4, cells := 0, slots := 0, locals := 89 })
def mX5_readHeat : ZM := (yX5_readHeat, cX5_readHeat, 3, none, { frames := 4, cells := 0, slots := 0, locals := 89 })
def mX5_readWood : ZM := (yX5_readWood, cX5_readWood, 4, none, { frames := 4, cells := 0, slots := 0, locals := 89 })
def mX5_readSpud : ZM := (yX5_readSpud, cX5_readSpud, 5, none, { frames := 7, cells := 0, slots := 0, locals := 148 })
def mX5_readMemo : ZM := (yX5_readMemo, cX5_readMemo, 2, none, { frames := 4, cells := 0, slots := 0, locals := 89 })
def mX6_renew : ZM := (yX6_renew, cX6_renew, 3, none, { frames := 1, cells := 0, slots := 0, locals := 23 })
def mX6_faultAt : ZM := (yX6_faultAt, cX6_faultAt, 2, (some .int), { frames := 0, cells := 0, slots := 0, locals := 0 })
def mX6_pairFault : ZM := (yX6_pairFault, cX6_pairFault, 4, (some .int), { frames := 1, cells := 0, slots := 0, locals := 21 })
def mX6_valueAt : ZM := (yX6_valueAt, cX6_valueAt, 2, (some .int), { frames := 1, cells := 0, slots := 0, locals := 21 })
def mX6_put : ZM := (yX6_put, cX6_put, 3, none, { frames := 1, cells := 0, slots := 0, locals := 21 })
def mX7_becomeRaw : ZM := (yX7_becomeRaw, cX7_becomeRaw, 3, none, { frames := 0, cells := 0, slots := 0, locals := 0 })
def mX7_copyFrom : ZM := (yX7_copyFrom, cX7_copyFrom, 2, none, { frames := 0, cells := 0, slots := 0, locals := 0 })
def mX7_bakeBy : ZM := (yX7_bakeBy, cX7_bakeBy, 2, none, { frames := 1, cells := 0, slots := 0, locals := 21 })
def mX7_turnOver : ZM := (yX7_turnOver, cX7_turnOver, 2, none, { frames := 0, cells := 0, slots := 0, locals := 0 })
def mX7_isDone : ZM := (yX7_isDone, cX7_isDone, 1, (some .boolean), { frames := 1, cells := 0, slots := 0, locals := 21 })
def mX7_isBlack : ZM := (yX7_isBlack, cX7_isBlack, 1, (some .boolean), { frames := 0, cells := 0, slots := 0, locals := 0 })
def mX7_isGood : ZM := (yX7_isGood, cX7_isGood, 1, (some .boolean), { frames := 2, cells := 0, slots := 0, locals := 41 })
def mX7_wouldBeDone : ZM := (yX7_wouldBeDone, cX7_wouldBeDone, 2, (some .boolean), { frames := 0, cells := 0, slots := 0, locals := 0 })
def mX7_wouldBeGood : ZM := (yX7_wouldBeGood, cX7_wouldBeGood, 4, (some .boolean), { frames := 1, cells := 0, slots := 0, locals := 21 })
def mX7_tell : ZM := (yX7_tell, cX7_tell, 2, (some .int), { frames := 3, cells := 0, slots := 0, locals := 61 })
def mX7_appeal : ZM := (yX7_appeal, cX7_appeal, 1, (some .int), { frames := 3, cells := 0, slots := 0, locals := 61 })
def mX7_coreShare : ZM := (yX7_coreShare, cX7_coreShare, 2, (some .int), { frames := 0, cells := 0, slots := 0, locals := 0 })
def mX7_sideShare : ZM := (yX7_sideShare, cX7_sideShare, 2, (some .int), { frames := 0, cells := 0, slots := 0, locals := 0 })
def mX8_append : ZM := (yX8_append, cX8_append, 2, (some .boolean), { frames := 0, cells := 0, slots := 0, locals := 0 })
def mX8_byteAt : ZM := (yX8_byteAt, cX8_byteAt, 2, (some .int), { frames := 0, cells := 0, slots := 0, locals := 0 })
def mX8_rewind : ZM := (yX8_rewind, cX8_rewind, 1, none, { frames := 0, cells := 0, slots := 0, locals := 0 })
def mX8_isSound : ZM := (yX8_isSound, cX8_isSound, 1, (some .boolean), { frames := 0, cells := 0, slots := 0, locals := 0 })
def mX8_failAt : ZM := (yX8_failAt, cX8_failAt, 3, none, { frames := 0, cells := 0, slots := 0, locals := 0 })
def mX8_fail : ZM := (yX8_fail, cX8_fail, 2, none, { frames := 1, cells := 0, slots := 0, locals := 22 })
def mX8_advance : ZM := (yX8_advance, cX8_advance, 3, none, { frames := 2, cells := 0, slots := 0, locals := 43 })
def mX8_kindAt : ZM := (yX8_kindAt, cX8_kindAt, 3, (some .int), { frames := 1, cells := 0, slots := 0, locals := 21 })
def mX8_isName : ZM := (yX8_isName, cX8_isName, 3, (some .boolean), { frames := 5, cells := 0, slots := 0, locals := 106 })
def mX8_takeNumber : ZM := (yX8_takeNumber, cX8_takeNumber, 5, (some .int), { frames := 3, cells := 0, slots := 0, locals := 65 })
def mX8_takeWrap : ZM := (yX8_takeWrap, cX8_takeWrap, 1, (some .int), { frames := 6, cells := 0, slots := 0, locals := 128 })
def mX8_takeMark : ZM := (yX8_takeMark, cX8_takeMark, 1, none, { frames := 3, cells := 0, slots := 0, locals := 65 })
def mX9_followFor : ZM := (yX9_followFor, cX9_followFor, 4, none, { frames := 3, cells := 0, slots := 0, locals := 67 })
def mX9_gatherEmbers : ZM := (yX9_gatherEmbers, cX9_gatherEmbers, 4, none, { frames := 2, cells := 0, slots := 0, locals := 44 })
def mX9_addEmber : ZM := (yX9_addEmber, cX9_addEmber, 4, none, { frames := 1, cells := 0, slots := 0, locals := 21 })
def mX9_follow : ZM := (yX9_follow, cX9_follow, 6, none, { frames := 1, cells := 0, slots := 0, locals := 21 })
def mX9_coreGain : ZM := (yX9_coreGain, cX9_coreGain, 5, (some .int), { frames := 1, cells := 0, slots := 0, locals := 21 })
def mX9_sideGain : ZM := (yX9_sideGain, cX9_sideGain, 6, (some .int), { frames := 1, cells := 0, slots := 0, locals := 21 })
def mJ6_bitCount_0f7a4 : ZM := (yJ6_bitCount_0f7a4, cJ6_bitCount_0f7a4, 1, (some .int), { frames := 0, cells := 0, slots := 0, locals := 0 })
def mJ9_abs_0f7a4 : ZM := (yJ9_abs_0f7a4, cJ9_abs_0f7a4, 1, (some .int), { frames := 0, cells := 0, slots := 0, locals := 0 })
def mJ9_max_7cf53 : ZM := (yJ9_max_7cf53, cJ9_max_7cf53, 2, (some .int), { frames := 0, cells := 0, slots := 0, locals := 0 })
def mJ9_min_7cf53 : ZM := (yJ9_min_7cf53, cJ9_min_7cf53, 2, (some .int), { frames := 0, cells := 0, slots := 0, locals := 0 })
def mJ0_length_8abf5 : ZM := (yJ0_length_8abf5, cJ0_length_8abf5, 1, (some .int), { frames := 1, cells := 0, slots := 0, locals := 20 })
def mJ0_charAt_5068e : ZM := (yJ0_charAt_5068e, cJ0_charAt_5068e, 2, (some .char), { frames := 4, cells := 0, slots := 0, locals := 85 })
def mJ0_coder_7d493 : ZM := (yJ0_coder_7d493, cJ0_coder_7d493, 1, (some .byte), { frames := 0, cells := 0, slots := 0, locals := 0 })
def mJ0_isLatin1_aae02 : ZM := (yJ0_isLatin1_aae02, cJ0_isLatin1_aae02, 1, (some .boolean), { frames := 0, cells := 0, slots := 0, locals := 0 })
def mJ0_checkIndex_df160 : ZM := (yJ0_checkIndex_df160, cJ0_checkIndex_df160, 2, none, { frames := 1, cells := 0, slots := 0, locals := 22 })
def mJ1_charAt_3b067 : ZM := (yJ1_charAt_3b067, cJ1_charAt_3b067, 2, (some .char), { frames := 2, cells := 0, slots := 0, locals := 43 })
def mJ2_getChar_3b067 : ZM := (yJ2_getChar_3b067, cJ2_getChar_3b067, 2, (some .char), { frames := 1, cells := 0, slots := 0, locals := 20 })
def mJ2_length_9d52b : ZM := (yJ2_length_9d52b, cJ2_length_9d52b, 1, (some .int), { frames := 0, cells := 0, slots := 0, locals := 0 })
def mJ2_charAt_3b067 : ZM := (yJ2_charAt_3b067, cJ2_charAt_3b067, 2, (some .char), { frames := 3, cells := 0, slots := 0, locals := 64 })
def mJ2_checkIndex_2214a : ZM := (yJ2_checkIndex_2214a, cJ2_checkIndex_2214a, 2, none, { frames := 2, cells := 0, slots := 0, locals := 43 })
def mJ7_fill_53178 : ZM := (yJ7_fill_53178, cJ7_fill_53178, 4, none, { frames := 0, cells := 0, slots := 0, locals := 0 })
def mJ3_checkIndex_8e157 : ZM := (yJ3_checkIndex_8e157, cJ3_checkIndex_8e157, 3, (some .int), { frames := 0, cells := 0, slots := 0, locals := 0 })
def mX10_feed : ZM := (yX10_feed, cX10_feed, 2, (some .int), { frames := 1, cells := 0, slots := 0, locals := 21 })
def mX10_end : ZM := (yX10_end, cX10_end, 4, (some .int), { frames := 0, cells := 0, slots := 0, locals := 0 })
def mX10_text : ZM := (yX10_text, cX10_text, 2, (some .int), { frames := 10, cells := 0, slots := 0, locals := 213 })
def mX10_fault : ZM := (yX10_fault, cX10_fault, 1, (some .int), { frames := 0, cells := 0, slots := 0, locals := 0 })
def mX10_rule : ZM := (yX10_rule, cX10_rule, 2, (some .int), { frames := 0, cells := 0, slots := 0, locals := 0 })
def mX10_heat : ZM := (yX10_heat, cX10_heat, 2, (some .int), { frames := 2, cells := 0, slots := 0, locals := 41 })
def mX10_wood : ZM := (yX10_wood, cX10_wood, 3, (some .int), { frames := 0, cells := 0, slots := 0, locals := 0 })
def mX10_spud : ZM := (yX10_spud, cX10_spud, 3, (some .int), { frames := 4, cells := 0, slots := 0, locals := 82 })
def mX10_fan : ZM := (yX10_fan, cX10_fan, 4, (some .int), { frames := 2, cells := 0, slots := 0, locals := 41 })
def mX10_ash : ZM := (yX10_ash, cX10_ash, 4, (some .int), { frames := 0, cells := 0, slots := 0, locals := 0 })
def mX10_stoke : ZM := (yX10_stoke, cX10_stoke, 5, (some .int), { frames := 1, cells := 0, slots := 0, locals := 23 })
def mX10_add : ZM := (yX10_add, cX10_add, 3, (some .int), { frames := 2, cells := 0, slots := 0, locals := 44 })
def mX10_dig : ZM := (yX10_dig, cX10_dig, 5, (some .int), { frames := 2, cells := 0, slots := 0, locals := 41 })
def mX10_turn : ZM := (yX10_turn, cX10_turn, 2, (some .int), { frames := 1, cells := 0, slots := 0, locals := 21 })
def mX10_wrap : ZM := (yX10_wrap, cX10_wrap, 4, (some .int), { frames := 1, cells := 0, slots := 0, locals := 21 })
def mX10_memo : ZM := (yX10_memo, cX10_memo, 4, (some .int), { frames := 1, cells := 0, slots := 0, locals := 21 })
def mX10_rake : ZM := (yX10_rake, cX10_rake, 5, (some .int), { frames := 2, cells := 0, slots := 0, locals := 41 })
def mX10_go : ZM := (yX10_go, cX10_go, 2, (some .int), { frames := 6, cells := 0, slots := 0, locals := 130 })
def mX10_ahead : ZM := (yX10_ahead, cX10_ahead, 4, (some .int), { frames := 6, cells := 0, slots := 0, locals := 130 })
def mX10_later : ZM := (yX10_later, cX10_later, 3, (some .int), { frames := 6, cells := 0, slots := 0, locals := 130 })
def mX10_when : ZM := (yX10_when, cX10_when, 6, (some .int), { frames := 5, cells := 0, slots := 0, locals := 108 })
def mX10_places : ZM := (yX10_places, cX10_places, 4, (some .int), { frames := 5, cells := 0, slots := 0, locals := 115 })
def mX10_flip : ZM := (yX10_flip, cX10_flip, 8, (some .int), { frames := 4, cells := 0, slots := 0, locals := 90 })
def mX10_least : ZM := (yX10_least, cX10_least, 5, (some .int), { frames := 3, cells := 0, slots := 0, locals := 67 })
def mX10_best : ZM := (yX10_best, cX10_best, 6, (some .int), { frames := 5, cells := 0, slots := 0, locals := 108 })
def mX10_feel : ZM := (yX10_feel, cX10_feel, 4, (some .int), { frames := 2, cells := 0, slots := 0, locals := 41 })
def mX10_forget : ZM := (yX10_forget, cX10_forget, 3, (some .int), { frames := 0, cells := 0, slots := 0, locals := 0 })
def mX10_fits : ZM := (yX10_fits, cX10_fits, 2, (some .int), { frames := 4, cells := 0, slots := 0, locals := 93 })
def mX10_lies : ZM := (yX10_lies, cX10_lies, 6, (some .long), { frames := 3, cells := 0, slots := 0, locals := 68 })
def mX10_next : ZM := (yX10_next, cX10_next, 2, (some .long), { frames := 4, cells := 0, slots := 0, locals := 91 })
def mX10_takes : ZM := (yX10_takes, cX10_takes, 5, (some .int), { frames := 5, cells := 0, slots := 0, locals := 105 })
def mX10_morning : ZM := (yX10_morning, cX10_morning, 11, (some .long), { frames := 2, cells := 0, slots := 0, locals := 56 })
def mX10_drift : ZM := (yX10_drift, cX10_drift, 8, (some .int), { frames := 5, cells := 0, slots := 0, locals := 108 })
def mX10_keep : ZM := (yX10_keep, cX10_keep, 3, (some .int), { frames := 3, cells := 0, slots := 0, locals := 83 })
def mX10_back : ZM := (yX10_back, cX10_back, 2, (some .int), { frames := 3, cells := 0, slots := 0, locals := 83 })
def mX10_sheet : ZM := (yX10_sheet, cX10_sheet, 4, (some .int), { frames := 2, cells := 0, slots := 0, locals := 45 })
def mX10_lay : ZM := (yX10_lay, cX10_lay, 5, (some .int), { frames := 2, cells := 0, slots := 0, locals := 43 })
def mX10_read : ZM := (yX10_read, cX10_read, 10, (some .int), { frames := 3, cells := 0, slots := 0, locals := 66 })
def mX10_torn : ZM := (yX10_torn, cX10_torn, 1, (some .int), { frames := 0, cells := 0, slots := 0, locals := 0 })
def mX10_count : ZM := (yX10_count, cX10_count, 2, (some .int), { frames := 5, cells := 0, slots := 0, locals := 105 })
def mX10_bringSort : ZM := (yX10_bringSort, cX10_bringSort, 3, (some .boolean), { frames := 2, cells := 0, slots := 0, locals := 44 })
def mX10_isSort : ZM := (yX10_isSort, cX10_isSort, 2, (some .boolean), { frames := 0, cells := 0, slots := 0, locals := 0 })
def mX10_isHeat : ZM := (yX10_isHeat, cX10_isHeat, 1, (some .boolean), { frames := 0, cells := 0, slots := 0, locals := 0 })
def mX10_isSheet : ZM := (yX10_isSheet, cX10_isSheet, 1, (some .boolean), { frames := 0, cells := 0, slots := 0, locals := 0 })
def mX10_isLane : ZM := (yX10_isLane, cX10_isLane, 1, (some .boolean), { frames := 0, cells := 0, slots := 0, locals := 0 })
def mX10_stepSeed : ZM := (yX10_stepSeed, cX10_stepSeed, 1, (some .int), { frames := 0, cells := 0, slots := 0, locals := 0 })
def mX10_seedBits : ZM := (yX10_seedBits, cX10_seedBits, 1, (some .int), { frames := 0, cells := 0, slots := 0, locals := 0 })
def mX10_fractionPart : ZM := (yX10_fractionPart, cX10_fractionPart, 7, (some .long), { frames := 1, cells := 0, slots := 0, locals := 30 })
def mX10_commonDivisor : ZM := (yX10_commonDivisor, cX10_commonDivisor, 11, (some .long), { frames := 0, cells := 0, slots := 0, locals := 0 })
def mX11_in : ZM := (yX11_in, cX11_in, 6, (some .boolean), { frames := 0, cells := 0, slots := 0, locals := 0 })
def mX11_flag : ZM := (yX11_flag, cX11_flag, 1, (some .int), { frames := 0, cells := 0, slots := 0, locals := 0 })
def mX11_firstDraft : ZM := (yX11_firstDraft, cX11_firstDraft, 2, none, { frames := 0, cells := 0, slots := 0, locals := 0 })
def mX11_keepDraft : ZM := (yX11_keepDraft, cX11_keepDraft, 2, none, { frames := 0, cells := 0, slots := 0, locals := 0 })
def mX11_feed : ZM := (yX11_feed, cX11_feed, 2, (some .int), { frames := 1, cells := 0, slots := 0, locals := 25 })
def mX11_end : ZM := (yX11_end, cX11_end, 3, (some .int), { frames := 1, cells := 0, slots := 0, locals := 25 })
def mX11_needs : ZM := (yX11_needs, cX11_needs, 3, none, { frames := 0, cells := 0, slots := 0, locals := 0 })
def mX11_look : ZM := (yX11_look, cX11_look, 2, (some .int), { frames := 0, cells := 0, slots := 0, locals := 0 })
def mX11_is : ZM := (yX11_is, cX11_is, 5, (some .boolean), { frames := 1, cells := 0, slots := 0, locals := 21 })
def mX11_ends : ZM := (yX11_ends, cX11_ends, 2, (some .boolean), { frames := 1, cells := 0, slots := 0, locals := 21 })
def mX11_lineNow : ZM := (yX11_lineNow, cX11_lineNow, 1, (some .int), { frames := 2, cells := 0, slots := 0, locals := 45 })
def mX11_wrapNow : ZM := (yX11_wrapNow, cX11_wrapNow, 1, (some .int), { frames := 2, cells := 0, slots := 0, locals := 45 })
def mX11_next : ZM := (yX11_next, cX11_next, 2, none, { frames := 1, cells := 0, slots := 0, locals := 25 })
def mX11_looked : ZM := (yX11_looked, cX11_looked, 3, (some .int), { frames := 1, cells := 0, slots := 0, locals := 25 })
def mX11_readNumber : ZM := (yX11_readNumber, cX11_readNumber, 4, (some .int), { frames := 2, cells := 0, slots := 0, locals := 47 })
def mX11_lookedCell : ZM := (yX11_lookedCell, cX11_lookedCell, 2, (some .int), { frames := 2, cells := 0, slots := 0, locals := 47 })
def mX11_readCell : ZM := (yX11_readCell, cX11_readCell, 2, (some .int), { frames := 3, cells := 0, slots := 0, locals := 68 })
def mX11_readWrap : ZM := (yX11_readWrap, cX11_readWrap, 2, (some .int), { frames := 3, cells := 0, slots := 0, locals := 65 })
def mX11_readHeat : ZM := (yX11_readHeat, cX11_readHeat, 3, none, { frames := 3, cells := 0, slots := 0, locals := 70 })
def mX11_readWood : ZM := (yX11_readWood, cX11_readWood, 2, none, { frames := 4, cells := 0, slots := 0, locals := 89 })
def mX11_readSpud : ZM := (yX11_readSpud, cX11_readSpud, 6, none, { frames := 4, cells := 0, slots := 0, locals := 86 })
def mX11_readMemo : ZM := (yX11_readMemo, cX11_readMemo, 3, none, { frames := 4, cells := 0, slots := 0, locals := 89 })
def mX11_readLineOf : ZM := (yX11_readLineOf, cX11_readLineOf, 2, none, { frames := 5, cells := 0, slots := 0, locals := 111 })
def mX11_readLine : ZM := (yX11_readLine, cX11_readLine, 3, none, { frames := 6, cells := 0, slots := 0, locals := 132 })
def mX11_text : ZM := (yX11_text, cX11_text, 2, (some .int), { frames := 7, cells := 0, slots := 0, locals := 154 })
def mX11_fault : ZM := (yX11_fault, cX11_fault, 1, (some .int), { frames := 0, cells := 0, slots := 0, locals := 0 })
def mX11_isCell : ZM := (yX11_isCell, cX11_isCell, 2, (some .boolean), { frames := 1, cells := 0, slots := 0, locals := 25 })
def mX11_isPlace : ZM := (yX11_isPlace, cX11_isPlace, 2, (some .boolean), { frames := 1, cells := 0, slots := 0, locals := 25 })
def mX11_isSpud : ZM := (yX11_isSpud, cX11_isSpud, 2, (some .boolean), { frames := 1, cells := 0, slots := 0, locals := 25 })
def mX11_starts : ZM := (yX11_starts, cX11_starts, 2, none, { frames := 0, cells := 0, slots := 0, locals := 0 })
def mX11_of : ZM := (yX11_of, cX11_of, 3, (some .int), { frames := 0, cells := 0, slots := 0, locals := 0 })
def mX11_becomesOf : ZM := (yX11_becomesOf, cX11_becomesOf, 4, none, { frames := 0, cells := 0, slots := 0, locals := 0 })
def mX11_most : ZM := (yX11_most, cX11_most, 1, (some .int), { frames := 0, cells := 0, slots := 0, locals := 0 })
def mX11_bakes : ZM := (yX11_bakes, cX11_bakes, 7, none, { frames := 1, cells := 0, slots := 0, locals := 23 })
def mX11_embers : ZM := (yX11_embers, cX11_embers, 6, none, { frames := 1, cells := 0, slots := 0, locals := 20 })
def mX11_burns : ZM := (yX11_burns, cX11_burns, 5, none, { frames := 2, cells := 0, slots := 0, locals := 45 })
def mX11_cools : ZM := (yX11_cools, cX11_cools, 4, none, { frames := 0, cells := 0, slots := 0, locals := 0 })
def mX11_rounds : ZM := (yX11_rounds, cX11_rounds, 2, none, { frames := 3, cells := 0, slots := 0, locals := 69 })
def mX11_roundsAll : ZM := (yX11_roundsAll, cX11_roundsAll, 3, none, { frames := 4, cells := 0, slots := 0, locals := 90 })
def mX11_isDone : ZM := (yX11_isDone, cX11_isDone, 2, (some .boolean), { frames := 1, cells := 0, slots := 0, locals := 22 })
def mX11_isBlack : ZM := (yX11_isBlack, cX11_isBlack, 2, (some .boolean), { frames := 1, cells := 0, slots := 0, locals := 22 })
def mX11_isGood : ZM := (yX11_isGood, cX11_isGood, 2, (some .boolean), { frames := 2, cells := 0, slots := 0, locals := 43 })
def mX11_goods : ZM := (yX11_goods, cX11_goods, 3, (some .int), { frames := 3, cells := 0, slots := 0, locals := 64 })
def mX11_blacks : ZM := (yX11_blacks, cX11_blacks, 3, (some .int), { frames := 2, cells := 0, slots := 0, locals := 43 })
def mX11_tells : ZM := (yX11_tells, cX11_tells, 3, (some .int), { frames := 3, cells := 0, slots := 0, locals := 64 })
def mX11_rule : ZM := (yX11_rule, cX11_rule, 2, (some .int), { frames := 0, cells := 0, slots := 0, locals := 0 })
def mX11_heat : ZM := (yX11_heat, cX11_heat, 2, (some .int), { frames := 2, cells := 0, slots := 0, locals := 46 })
def mX11_wood : ZM := (yX11_wood, cX11_wood, 3, (some .int), { frames := 1, cells := 0, slots := 0, locals := 25 })
def mX11_spud : ZM := (yX11_spud, cX11_spud, 3, (some .int), { frames := 4, cells := 0, slots := 0, locals := 86 })
def mX11_becomes : ZM := (yX11_becomes, cX11_becomes, 4, (some .int), { frames := 0, cells := 0, slots := 0, locals := 0 })
def mX11_fan : ZM := (yX11_fan, cX11_fan, 3, (some .int), { frames := 2, cells := 0, slots := 0, locals := 46 })
def mX11_ash : ZM := (yX11_ash, cX11_ash, 3, (some .int), { frames := 1, cells := 0, slots := 0, locals := 25 })
def mX11_stoke : ZM := (yX11_stoke, cX11_stoke, 5, (some .int), { frames := 2, cells := 0, slots := 0, locals := 46 })
def mX11_add : ZM := (yX11_add, cX11_add, 5, (some .int), { frames := 1, cells := 0, slots := 0, locals := 25 })
def mX11_dig : ZM := (yX11_dig, cX11_dig, 5, (some .int), { frames := 2, cells := 0, slots := 0, locals := 46 })
def mX11_turn : ZM := (yX11_turn, cX11_turn, 3, (some .int), { frames := 2, cells := 0, slots := 0, locals := 46 })
def mX11_wrap : ZM := (yX11_wrap, cX11_wrap, 3, (some .int), { frames := 2, cells := 0, slots := 0, locals := 46 })
def mX11_memo : ZM := (yX11_memo, cX11_memo, 3, (some .int), { frames := 2, cells := 0, slots := 0, locals := 46 })
def mX11_rake : ZM := (yX11_rake, cX11_rake, 4, (some .int), { frames := 2, cells := 0, slots := 0, locals := 46 })
def mX11_go : ZM := (yX11_go, cX11_go, 3, (some .int), { frames := 5, cells := 0, slots := 0, locals := 112 })
def mX11_ahead : ZM := (yX11_ahead, cX11_ahead, 4, (some .int), { frames := 5, cells := 0, slots := 0, locals := 112 })
def mX11_later : ZM := (yX11_later, cX11_later, 3, (some .int), { frames := 5, cells := 0, slots := 0, locals := 112 })
def mX11_when : ZM := (yX11_when, cX11_when, 7, (some .int), { frames := 4, cells := 0, slots := 0, locals := 90 })
def mX11_findGoods : ZM := (yX11_findGoods, cX11_findGoods, 4, none, { frames := 5, cells := 0, slots := 0, locals := 112 })
def mX11_bitsOf : ZM := (yX11_bitsOf, cX11_bitsOf, 3, (some .int), { frames := 0, cells := 0, slots := 0, locals := 0 })
def mX11_mostFrom : ZM := (yX11_mostFrom, cX11_mostFrom, 8, (some .int), { frames := 1, cells := 0, slots := 0, locals := 22 })
def mX11_placeOf : ZM := (yX11_placeOf, cX11_placeOf, 6, (some .int), { frames := 2, cells := 0, slots := 0, locals := 49 })
def mX11_places : ZM := (yX11_places, cX11_places, 7, (some .int), { frames := 6, cells := 0, slots := 0, locals := 135 })
def mX11_flip : ZM := (yX11_flip, cX11_flip, 4, (some .int), { frames := 5, cells := 0, slots := 0, locals := 112 })
def mX11_least : ZM := (yX11_least, cX11_least, 7, (some .int), { frames := 3, cells := 0, slots := 0, locals := 69 })
def mX11_best : ZM := (yX11_best, cX11_best, 6, (some .int), { frames := 4, cells := 0, slots := 0, locals := 90 })
def mX11_feel : ZM := (yX11_feel, cX11_feel, 5, (some .int), { frames := 2, cells := 0, slots := 0, locals := 46 })
def mX11_forget : ZM := (yX11_forget, cX11_forget, 2, (some .int), { frames := 1, cells := 0, slots := 0, locals := 25 })
def mX11_isSo : ZM := (yX11_isSo, cX11_isSo, 7, (some .boolean), { frames := 4, cells := 0, slots := 0, locals := 90 })
def mX11_fits : ZM := (yX11_fits, cX11_fits, 6, (some .int), { frames := 5, cells := 0, slots := 0, locals := 116 })
def mX11_weightOf : ZM := (yX11_weightOf, cX11_weightOf, 5, (some .int), { frames := 0, cells := 0, slots := 0, locals := 0 })
def mX11_allOf : ZM := (yX11_allOf, cX11_allOf, 4, (some .int), { frames := 1, cells := 0, slots := 0, locals := 24 })
def mX11_common : ZM := (yX11_common, cX11_common, 10, (some .long), { frames := 0, cells := 0, slots := 0, locals := 0 })
def mX11_told : ZM := (yX11_told, cX11_told, 7, (some .long), { frames := 1, cells := 0, slots := 0, locals := 29 })
def mX11_lies : ZM := (yX11_lies, cX11_lies, 5, (some .long), { frames := 2, cells := 0, slots := 0, locals := 55 })
def mX11_next_ : ZM := (yX11_next_, cX11_next_, 10, (some .long), { frames := 2, cells := 0, slots := 0, locals := 55 })
def mX11_isBefore : ZM := (yX11_isBefore, cX11_isBefore, 5, (some .boolean), { frames := 3, cells := 0, slots := 0, locals := 64 })
def mX11_takes : ZM := (yX11_takes, cX11_takes, 7, (some .int), { frames := 4, cells := 0, slots := 0, locals := 88 })
def mX11_morning : ZM := (yX11_morning, cX11_morning, 11, (some .long), { frames := 2, cells := 0, slots := 0, locals := 55 })
def mX11_drift : ZM := (yX11_drift, cX11_drift, 8, (some .int), { frames := 4, cells := 0, slots := 0, locals := 90 })
def mX11_copies : ZM := (yX11_copies, cX11_copies, 4, none, { frames := 0, cells := 0, slots := 0, locals := 0 })
def mX11_keep : ZM := (yX11_keep, cX11_keep, 3, (some .int), { frames := 1, cells := 0, slots := 0, locals := 25 })
def mX11_back : ZM := (yX11_back, cX11_back, 2, (some .int), { frames := 1, cells := 0, slots := 0, locals := 25 })
def mX11_isSheet : ZM := (yX11_isSheet, cX11_isSheet, 2, (some .boolean), { frames := 1, cells := 0, slots := 0, locals := 25 })
def mX11_sheet : ZM := (yX11_sheet, cX11_sheet, 5, (some .int), { frames := 2, cells := 0, slots := 0, locals := 46 })
def mX11_lay : ZM := (yX11_lay, cX11_lay, 4, (some .int), { frames := 2, cells := 0, slots := 0, locals := 46 })
def mX11_read : ZM := (yX11_read, cX11_read, 12, (some .int), { frames := 2, cells := 0, slots := 0, locals := 49 })
def mX11_torn : ZM := (yX11_torn, cX11_torn, 1, (some .int), { frames := 0, cells := 0, slots := 0, locals := 0 })
def mX11_count : ZM := (yX11_count, cX11_count, 6, (some .int), { frames := 4, cells := 0, slots := 0, locals := 86 })
theorem fl_X0_12 : FL RX0 12 0 0 := ⟨RX0, TX0, 9, rfl, by decide, (zin 177 (by decide +kernel) rfl)⟩
theorem clv_X0_35 : CLV RX0 35 mX2_becomeCold 0 := ⟨⟨(zin 170 (by decide +kernel) rfl), (zin 51 (by decide +kernel) rfl), (zin 173 (by decide +kernel) rfl), by decide +kernel, rfl, rfl⟩, (zin 171 (by decide +kernel) rfl), (zin 172 (by decide +kernel) rfl)⟩
theorem fl_X0_38 : FL RX0 38 0 2 := ⟨RX0, TX0, 9, rfl, by decide, (zin 189 (by decide +kernel) rfl)⟩
theorem fp_X0_38 : FP RX0 38 0 2 .int := ⟨RX0, TX0, 9, rfl, by decide, (zin 189 (by decide +kernel) rfl), rfl, by decide +kernel⟩
theorem fl_X0_42 : FL RX0 42 0 3 := ⟨RX0, TX0, 9, rfl, by decide, (zin 193 (by decide +kernel) rfl)⟩
theorem fp_X0_42 : FP RX0 42 0 3 .int := ⟨RX0, TX0, 9, rfl, by decide, (zin 193 (by decide +kernel) rfl), rfl, by decide +kernel⟩
theorem fl_X0_45 : FL RX0 45 0 4 := ⟨RX0, TX0, 9, rfl, by decide, (zin 196 (by decide +kernel) rfl)⟩
theorem fp_X0_45 : FP RX0 45 0 4 .int := ⟨RX0, TX0, 9, rfl, by decide, (zin 196 (by decide +kernel) rfl), rfl, by decide +kernel⟩
theorem fl_X0_48 : FL RX0 48 0 5 := ⟨RX0, TX0, 9, rfl, by decide, (zin 198 (by decide +kernel) rfl)⟩
theorem fp_X0_48 : FP RX0 48 0 5 .int := ⟨RX0, TX0, 9, rfl, by decide, (zin 198 (by decide +kernel) rfl), rfl, by decide +kernel⟩
theorem clv_X0_51 : CLV RX0 51 mX2_copyFrom 1 := ⟨⟨(zin 641 (by decide +kernel) rfl), (zin 51 (by decide +kernel) rfl), (zin 644 (by decide +kernel) rfl), by decide +kernel, rfl, rfl⟩, (zin 642 (by decide +kernel) rfl), (zin 643 (by decide +kernel) rfl)⟩
theorem fl_X0_20 : FL RX0 20 0 1 := ⟨RX0, TX0, 9, rfl, by decide, (zin 183 (by decide +kernel) rfl)⟩
theorem clv_X0_55 : CLV RX0 55 mX7_copyFrom 1 := ⟨⟨(zin 648 (by decide +kernel) rfl), (zin 52 (by decide +kernel) rfl), (zin 651 (by decide +kernel) rfl), by decide +kernel, rfl, rfl⟩, (zin 649 (by decide +kernel) rfl), (zin 650 (by decide +kernel) rfl)⟩
theorem fl_X0_24 : FL RX0 24 0 6 := ⟨RX0, TX0, 9, rfl, by decide, (zin 201 (by decide +kernel) rfl)⟩
theorem clc_X0_58 : CLC RX0 58 := ⟨(zin 652 (by decide +kernel) rfl), (zin 647 (by decide +kernel) rfl), (zin 646 (by decide +kernel) rfl), (zin 67 (by decide +kernel) rfl)⟩
theorem fl_X0_28 : FL RX0 28 0 7 := ⟨RX0, TX0, 9, rfl, by decide, (zin 203 (by decide +kernel) rfl)⟩
theorem fl_X0_31 : FL RX0 31 0 8 := ⟨RX0, TX0, 9, rfl, by decide, (zin 205 (by decide +kernel) rfl)⟩
theorem clv_X0_64 : CLV RX0 64 mX7_becomeRaw 2 := ⟨⟨(zin 606 (by decide +kernel) rfl), (zin 52 (by decide +kernel) rfl), (zin 609 (by decide +kernel) rfl), by decide +kernel, rfl, rfl⟩, (zin 607 (by decide +kernel) rfl), (zin 608 (by decide +kernel) rfl)⟩
theorem fl_X0_68 : FL RX0 68 7 2 := ⟨RX7, TX7, 7, rfl, by decide, (zin 144 (by decide +kernel) rfl)⟩
theorem clv_X0_71 : CLV RX0 71 mX2_heatAt 1 := ⟨⟨(zin 760 (by decide +kernel) rfl), (zin 51 (by decide +kernel) rfl), (zin 763 (by decide +kernel) rfl), by decide +kernel, rfl, rfl⟩, (zin 761 (by decide +kernel) rfl), (zin 762 (by decide +kernel) rfl)⟩
theorem clv_X0_75 : CLV RX0 75 mX7_bakeBy 1 := ⟨⟨(zin 765 (by decide +kernel) rfl), (zin 52 (by decide +kernel) rfl), (zin 768 (by decide +kernel) rfl), by decide +kernel, rfl, rfl⟩, (zin 766 (by decide +kernel) rfl), (zin 767 (by decide +kernel) rfl)⟩
theorem clv_X0_79 : CLV RX0 79 mX2_burnWood 0 := ⟨⟨(zin 776 (by decide +kernel) rfl), (zin 51 (by decide +kernel) rfl), (zin 779 (by decide +kernel) rfl), by decide +kernel, rfl, rfl⟩, (zin 777 (by decide +kernel) rfl), (zin 778 (by decide +kernel) rfl)⟩
theorem clv_X0_82 : CLV RX0 82 mX2_coolDown 0 := ⟨⟨(zin 788 (by decide +kernel) rfl), (zin 51 (by decide +kernel) rfl), (zin 791 (by decide +kernel) rfl), by decide +kernel, rfl, rfl⟩, (zin 789 (by decide +kernel) rfl), (zin 790 (by decide +kernel) rfl)⟩
theorem clv_X0_85 : CLV RX0 85 mX0_passRound 0 := ⟨⟨(zin 756 (by decide +kernel) rfl), (zin 50 (by decide +kernel) rfl), (zin 759 (by decide +kernel) rfl), by decide +kernel, rfl, rfl⟩, (zin 757 (by decide +kernel) rfl), (zin 758 (by decide +kernel) rfl)⟩
theorem clv_X0_88 : CLV RX0 88 mX0_hasSpud 1 := ⟨⟨(zin 1033 (by decide +kernel) rfl), (zin 50 (by decide +kernel) rfl), (zin 677 (by decide +kernel) rfl), by decide +kernel, rfl, rfl⟩, (zin 675 (by decide +kernel) rfl), (zin 676 (by decide +kernel) rfl)⟩
theorem clv_X0_92 : CLV RX0 92 mX7_turnOver 0 := ⟨⟨(zin 1034 (by decide +kernel) rfl), (zin 52 (by decide +kernel) rfl), (zin 735 (by decide +kernel) rfl), by decide +kernel, rfl, rfl⟩, (zin 733 (by decide +kernel) rfl), (zin 734 (by decide +kernel) rfl)⟩
theorem clv_X0_95 : CLV RX0 95 mX7_isDone 0 := ⟨⟨(zin 808 (by decide +kernel) rfl), (zin 52 (by decide +kernel) rfl), (zin 685 (by decide +kernel) rfl), by decide +kernel, rfl, rfl⟩, (zin 683 (by decide +kernel) rfl), (zin 684 (by decide +kernel) rfl)⟩
theorem fp_X0_68 : FP RX0 68 7 2 .int := ⟨RX7, TX7, 7, rfl, by decide, (zin 144 (by decide +kernel) rfl), rfl, by decide +kernel⟩
theorem cls_X0_99 : CLS RX0 99 mX0_isOfKind 2 := ⟨⟨(zin 805 (by decide +kernel) rfl), (zin 50 (by decide +kernel) rfl), (zin 807 (by decide +kernel) rfl), by decide +kernel, rfl, rfl⟩, (zin 806 (by decide +kernel) rfl)⟩
theorem clv_X0_103 : CLV RX0 103 mX7_isBlack 0 := ⟨⟨(zin 809 (by decide +kernel) rfl), (zin 52 (by decide +kernel) rfl), (zin 693 (by decide +kernel) rfl), by decide +kernel, rfl, rfl⟩, (zin 691 (by decide +kernel) rfl), (zin 692 (by decide +kernel) rfl)⟩
theorem clv_X0_106 : CLV RX0 106 mX7_isGood 0 := ⟨⟨(zin 810 (by decide +kernel) rfl), (zin 52 (by decide +kernel) rfl), (zin 697 (by decide +kernel) rfl), by decide +kernel, rfl, rfl⟩, (zin 695 (by decide +kernel) rfl), (zin 696 (by decide +kernel) rfl)⟩
theorem clv_X0_109 : CLV RX0 109 mX7_appeal 0 := ⟨⟨(zin 1009 (by decide +kernel) rfl), (zin 52 (by decide +kernel) rfl), (zin 1012 (by decide +kernel) rfl), by decide +kernel, rfl, rfl⟩, (zin 1010 (by decide +kernel) rfl), (zin 1011 (by decide +kernel) rfl)⟩
theorem fl_X1_9 : FL RX1 9 1 0 := ⟨RX1, TX1, 5, rfl, by decide, (zin 362 (by decide +kernel) rfl)⟩
theorem fl_X1_18 : FL RX1 18 0 5 := ⟨RX0, TX0, 9, rfl, by decide, (zin 199 (by decide +kernel) rfl)⟩
theorem fl_X1_24 : FL RX1 24 0 7 := ⟨RX0, TX0, 9, rfl, by decide, (zin 204 (by decide +kernel) rfl)⟩
theorem fl_X1_28 : FL RX1 28 0 6 := ⟨RX0, TX0, 9, rfl, by decide, (zin 202 (by decide +kernel) rfl)⟩
theorem cls_X1_31 : CLS RX1 31 mJ9_min_7cf53 2 := ⟨⟨(zin 948 (by decide +kernel) rfl), (zin 62 (by decide +kernel) rfl), (zin 487 (by decide +kernel) rfl), by decide +kernel, rfl, rfl⟩, (zin 486 (by decide +kernel) rfl)⟩
theorem fl_X1_37 : FL RX1 37 0 0 := ⟨RX0, TX0, 9, rfl, by decide, (zin 179 (by decide +kernel) rfl)⟩
theorem clv_X1_41 : CLV RX1 41 mX9_gatherEmbers 2 := ⟨⟨(zin 949 (by decide +kernel) rfl), (zin 56 (by decide +kernel) rfl), (zin 845 (by decide +kernel) rfl), by decide +kernel, rfl, rfl⟩, (zin 843 (by decide +kernel) rfl), (zin 844 (by decide +kernel) rfl)⟩
theorem fl_X1_15 : FL RX1 15 1 1 := ⟨RX1, TX1, 5, rfl, by decide, (zin 363 (by decide +kernel) rfl)⟩
theorem clv_X1_47 : CLV RX1 47 mX2_heatAt 1 := ⟨⟨(zin 950 (by decide +kernel) rfl), (zin 51 (by decide +kernel) rfl), (zin 763 (by decide +kernel) rfl), by decide +kernel, rfl, rfl⟩, (zin 761 (by decide +kernel) rfl), (zin 762 (by decide +kernel) rfl)⟩
theorem clv_X1_53 : CLV RX1 53 mX9_follow 3 := ⟨⟨(zin 951 (by decide +kernel) rfl), (zin 56 (by decide +kernel) rfl), (zin 856 (by decide +kernel) rfl), by decide +kernel, rfl, rfl⟩, (zin 854 (by decide +kernel) rfl), (zin 855 (by decide +kernel) rfl)⟩
theorem fl_X1_57 : FL RX1 57 9 0 := ⟨RX9, TX9, 2, rfl, by decide, (zin 308 (by decide +kernel) rfl)⟩
theorem fl_X1_60 : FL RX1 60 0 8 := ⟨RX0, TX0, 9, rfl, by decide, (zin 206 (by decide +kernel) rfl)⟩
theorem clv_X1_63 : CLV RX1 63 mX2_isRimPlace 1 := ⟨⟨(zin 952 (by decide +kernel) rfl), (zin 51 (by decide +kernel) rfl), (zin 799 (by decide +kernel) rfl), by decide +kernel, rfl, rfl⟩, (zin 797 (by decide +kernel) rfl), (zin 798 (by decide +kernel) rfl)⟩
theorem clv_X1_67 : CLV RX1 67 mX1_sift 1 := ⟨⟨(zin 953 (by decide +kernel) rfl), (zin 59 (by decide +kernel) rfl), (zin 956 (by decide +kernel) rfl), by decide +kernel, rfl, rfl⟩, (zin 954 (by decide +kernel) rfl), (zin 955 (by decide +kernel) rfl)⟩
theorem clv_X1_71 : CLV RX1 71 mX1_sumUp 0 := ⟨⟨(zin 957 (by decide +kernel) rfl), (zin 59 (by decide +kernel) rfl), (zin 960 (by decide +kernel) rfl), by decide +kernel, rfl, rfl⟩, (zin 958 (by decide +kernel) rfl), (zin 959 (by decide +kernel) rfl)⟩
theorem fl_X1_74 : FL RX1 74 1 2 := ⟨RX1, TX1, 5, rfl, by decide, (zin 364 (by decide +kernel) rfl)⟩
theorem fp_X1_74 : FP RX1 74 1 2 .int := ⟨RX1, TX1, 5, rfl, by decide, (zin 364 (by decide +kernel) rfl), rfl, by decide +kernel⟩
theorem fl_X1_77 : FL RX1 77 1 3 := ⟨RX1, TX1, 5, rfl, by decide, (zin 366 (by decide +kernel) rfl)⟩
theorem fp_X1_77 : FP RX1 77 1 3 .int := ⟨RX1, TX1, 5, rfl, by decide, (zin 366 (by decide +kernel) rfl), rfl, by decide +kernel⟩
theorem fl_X1_80 : FL RX1 80 1 4 := ⟨RX1, TX1, 5, rfl, by decide, (zin 368 (by decide +kernel) rfl)⟩
theorem fp_X1_80 : FP RX1 80 1 4 .int := ⟨RX1, TX1, 5, rfl, by decide, (zin 368 (by decide +kernel) rfl), rfl, by decide +kernel⟩
theorem fl_X2_24 : FL RX2 24 2 0 := ⟨RX2, TX2, 8, rfl, by decide, (zin 89 (by decide +kernel) rfl)⟩
theorem fp_X2_24 : FP RX2 24 2 0 .int := ⟨RX2, TX2, 8, rfl, by decide, (zin 89 (by decide +kernel) rfl), rfl, by decide +kernel⟩
theorem fl_X2_28 : FL RX2 28 2 1 := ⟨RX2, TX2, 8, rfl, by decide, (zin 92 (by decide +kernel) rfl)⟩
theorem fp_X2_28 : FP RX2 28 2 1 .int := ⟨RX2, TX2, 8, rfl, by decide, (zin 92 (by decide +kernel) rfl), rfl, by decide +kernel⟩
theorem fl_X2_31 : FL RX2 31 2 2 := ⟨RX2, TX2, 8, rfl, by decide, (zin 95 (by decide +kernel) rfl)⟩
theorem fp_X2_31 : FP RX2 31 2 2 .int := ⟨RX2, TX2, 8, rfl, by decide, (zin 95 (by decide +kernel) rfl), rfl, by decide +kernel⟩
theorem fl_X2_34 : FL RX2 34 2 3 := ⟨RX2, TX2, 8, rfl, by decide, (zin 98 (by decide +kernel) rfl)⟩
theorem fp_X2_34 : FP RX2 34 2 3 .int := ⟨RX2, TX2, 8, rfl, by decide, (zin 98 (by decide +kernel) rfl), rfl, by decide +kernel⟩
theorem fl_X2_9 : FL RX2 9 2 4 := ⟨RX2, TX2, 8, rfl, by decide, (zin 102 (by decide +kernel) rfl)⟩
theorem cls_X2_37 : CLS RX2 37 mJ7_fill_53178 2 := ⟨⟨(zin 174 (by decide +kernel) rfl), (zin 53 (by decide +kernel) rfl), (zin 176 (by decide +kernel) rfl), by decide +kernel, rfl, rfl⟩, (zin 175 (by decide +kernel) rfl)⟩
theorem clc_X2_43 : CLC RX2 43 := ⟨(zin 645 (by decide +kernel) rfl), (zin 647 (by decide +kernel) rfl), (zin 646 (by decide +kernel) rfl), (zin 67 (by decide +kernel) rfl)⟩
theorem fl_X2_15 : FL RX2 15 2 5 := ⟨RX2, TX2, 8, rfl, by decide, (zin 105 (by decide +kernel) rfl)⟩
theorem fl_X2_18 : FL RX2 18 2 6 := ⟨RX2, TX2, 8, rfl, by decide, (zin 108 (by decide +kernel) rfl)⟩
theorem fl_X2_21 : FL RX2 21 2 7 := ⟨RX2, TX2, 8, rfl, by decide, (zin 111 (by decide +kernel) rfl)⟩
theorem clv_X2_49 : CLV RX2 49 mX2_placeCount 0 := ⟨⟨(zin 628 (by decide +kernel) rfl), (zin 51 (by decide +kernel) rfl), (zin 631 (by decide +kernel) rfl), by decide +kernel, rfl, rfl⟩, (zin 629 (by decide +kernel) rfl), (zin 630 (by decide +kernel) rfl)⟩
theorem clv_X2_53 : CLV RX2 53 mX2_hasPlace 1 := ⟨⟨(zin 764 (by decide +kernel) rfl), (zin 51 (by decide +kernel) rfl), (zin 627 (by decide +kernel) rfl), by decide +kernel, rfl, rfl⟩, (zin 625 (by decide +kernel) rfl), (zin 626 (by decide +kernel) rfl)⟩
theorem clv_X2_57 : CLV RX2 57 mX2_isRimPlace 1 := ⟨⟨(zin 796 (by decide +kernel) rfl), (zin 51 (by decide +kernel) rfl), (zin 799 (by decide +kernel) rfl), by decide +kernel, rfl, rfl⟩, (zin 797 (by decide +kernel) rfl), (zin 798 (by decide +kernel) rfl)⟩
theorem clv_X2_60 : CLV RX2 60 mX2_becomeEmber 2 := ⟨⟨(zin 780 (by decide +kernel) rfl), (zin 51 (by decide +kernel) rfl), (zin 783 (by decide +kernel) rfl), by decide +kernel, rfl, rfl⟩, (zin 781 (by decide +kernel) rfl), (zin 782 (by decide +kernel) rfl)⟩
theorem cls_X2_64 : CLS RX2 64 mX2_emberShare 2 := ⟨⟨(zin 784 (by decide +kernel) rfl), (zin 51 (by decide +kernel) rfl), (zin 786 (by decide +kernel) rfl), by decide +kernel, rfl, rfl⟩, (zin 785 (by decide +kernel) rfl)⟩
theorem cls_X2_68 : CLS RX2 68 mJ9_min_7cf53 2 := ⟨⟨(zin 787 (by decide +kernel) rfl), (zin 62 (by decide +kernel) rfl), (zin 487 (by decide +kernel) rfl), by decide +kernel, rfl, rfl⟩, (zin 486 (by decide +kernel) rfl)⟩
theorem clv_X2_73 : CLV RX2 73 mX2_lossAt 1 := ⟨⟨(zin 792 (by decide +kernel) rfl), (zin 51 (by decide +kernel) rfl), (zin 795 (by decide +kernel) rfl), by decide +kernel, rfl, rfl⟩, (zin 793 (by decide +kernel) rfl), (zin 794 (by decide +kernel) rfl)⟩
theorem cls_X2_77 : CLS RX2 77 mJ9_max_7cf53 2 := ⟨⟨(zin 800 (by decide +kernel) rfl), (zin 62 (by decide +kernel) rfl), (zin 575 (by decide +kernel) rfl), by decide +kernel, rfl, rfl⟩, (zin 574 (by decide +kernel) rfl)⟩
theorem fl_X3_25 : FL RX3 25 0 2 := ⟨RX0, TX0, 9, rfl, by decide, (zin 188 (by decide +kernel) rfl)⟩
theorem fl_X3_31 : FL RX3 31 3 4 := ⟨RX3, TX3, 5, rfl, by decide, (zin 326 (by decide +kernel) rfl)⟩
theorem fp_X3_31 : FP RX3 31 3 4 .int := ⟨RX3, TX3, 5, rfl, by decide, (zin 326 (by decide +kernel) rfl), rfl, by decide +kernel⟩
theorem fl_X3_9 : FL RX3 9 3 0 := ⟨RX3, TX3, 5, rfl, by decide, (zin 321 (by decide +kernel) rfl)⟩
theorem fl_X3_15 : FL RX3 15 3 1 := ⟨RX3, TX3, 5, rfl, by decide, (zin 322 (by decide +kernel) rfl)⟩
theorem fl_X3_32 : FL RX3 32 0 1 := ⟨RX0, TX0, 9, rfl, by decide, (zin 184 (by decide +kernel) rfl)⟩
theorem clv_X3_36 : CLV RX3 36 mX7_isGood 0 := ⟨⟨(zin 835 (by decide +kernel) rfl), (zin 52 (by decide +kernel) rfl), (zin 697 (by decide +kernel) rfl), by decide +kernel, rfl, rfl⟩, (zin 695 (by decide +kernel) rfl), (zin 696 (by decide +kernel) rfl)⟩
theorem fl_X3_42 : FL RX3 42 0 0 := ⟨RX0, TX0, 9, rfl, by decide, (zin 178 (by decide +kernel) rfl)⟩
theorem clv_X3_46 : CLV RX3 46 mX2_placeCount 0 := ⟨⟨(zin 836 (by decide +kernel) rfl), (zin 51 (by decide +kernel) rfl), (zin 631 (by decide +kernel) rfl), by decide +kernel, rfl, rfl⟩, (zin 629 (by decide +kernel) rfl), (zin 630 (by decide +kernel) rfl)⟩
theorem clv_X3_52 : CLV RX3 52 mX9_followFor 3 := ⟨⟨(zin 837 (by decide +kernel) rfl), (zin 56 (by decide +kernel) rfl), (zin 840 (by decide +kernel) rfl), by decide +kernel, rfl, rfl⟩, (zin 838 (by decide +kernel) rfl), (zin 839 (by decide +kernel) rfl)⟩
theorem clv_X3_58 : CLV RX3 58 mX9_coreGain 2 := ⟨⟨(zin 859 (by decide +kernel) rfl), (zin 56 (by decide +kernel) rfl), (zin 862 (by decide +kernel) rfl), by decide +kernel, rfl, rfl⟩, (zin 860 (by decide +kernel) rfl), (zin 861 (by decide +kernel) rfl)⟩
theorem clv_X3_62 : CLV RX3 62 mX9_sideGain 3 := ⟨⟨(zin 864 (by decide +kernel) rfl), (zin 56 (by decide +kernel) rfl), (zin 867 (by decide +kernel) rfl), by decide +kernel, rfl, rfl⟩, (zin 865 (by decide +kernel) rfl), (zin 866 (by decide +kernel) rfl)⟩
theorem clv_X3_66 : CLV RX3 66 mX3_surveyWrap 5 := ⟨⟨(zin 869 (by decide +kernel) rfl), (zin 57 (by decide +kernel) rfl), (zin 872 (by decide +kernel) rfl), by decide +kernel, rfl, rfl⟩, (zin 870 (by decide +kernel) rfl), (zin 871 (by decide +kernel) rfl)⟩
theorem clv_X3_70 : CLV RX3 70 mX3_uniteReached 0 := ⟨⟨(zin 877 (by decide +kernel) rfl), (zin 57 (by decide +kernel) rfl), (zin 880 (by decide +kernel) rfl), by decide +kernel, rfl, rfl⟩, (zin 878 (by decide +kernel) rfl), (zin 879 (by decide +kernel) rfl)⟩
theorem fl_X3_73 : FL RX3 73 7 1 := ⟨RX7, TX7, 7, rfl, by decide, (zin 141 (by decide +kernel) rfl)⟩
theorem clv_X3_76 : CLV RX3 76 mX7_wouldBeGood 3 := ⟨⟨(zin 873 (by decide +kernel) rfl), (zin 52 (by decide +kernel) rfl), (zin 876 (by decide +kernel) rfl), by decide +kernel, rfl, rfl⟩, (zin 874 (by decide +kernel) rfl), (zin 875 (by decide +kernel) rfl)⟩
theorem fl_X3_22 : FL RX3 22 3 3 := ⟨RX3, TX3, 5, rfl, by decide, (zin 325 (by decide +kernel) rfl)⟩
theorem cls_X3_80 : CLS RX3 80 mJ6_bitCount_0f7a4 1 := ⟨⟨(zin 885 (by decide +kernel) rfl), (zin 68 (by decide +kernel) rfl), (zin 887 (by decide +kernel) rfl), by decide +kernel, rfl, rfl⟩, (zin 886 (by decide +kernel) rfl)⟩
theorem cls_X3_86 : CLS RX3 86 mJ9_max_7cf53 2 := ⟨⟨(zin 891 (by decide +kernel) rfl), (zin 62 (by decide +kernel) rfl), (zin 575 (by decide +kernel) rfl), by decide +kernel, rfl, rfl⟩, (zin 574 (by decide +kernel) rfl)⟩
theorem clv_X3_91 : CLV RX3 91 mX3_mostGood 2 := ⟨⟨(zin 897 (by decide +kernel) rfl), (zin 57 (by decide +kernel) rfl), (zin 884 (by decide +kernel) rfl), by decide +kernel, rfl, rfl⟩, (zin 882 (by decide +kernel) rfl), (zin 883 (by decide +kernel) rfl)⟩
theorem fl_X3_19 : FL RX3 19 3 2 := ⟨RX3, TX3, 5, rfl, by decide, (zin 323 (by decide +kernel) rfl)⟩
theorem clv_X3_94 : CLV RX3 94 mX3_firstPlace 4 := ⟨⟨(zin 898 (by decide +kernel) rfl), (zin 57 (by decide +kernel) rfl), (zin 901 (by decide +kernel) rfl), by decide +kernel, rfl, rfl⟩, (zin 899 (by decide +kernel) rfl), (zin 900 (by decide +kernel) rfl)⟩
theorem clv_X3_98 : CLV RX3 98 mX3_goodIn 2 := ⟨⟨(zin 902 (by decide +kernel) rfl), (zin 57 (by decide +kernel) rfl), (zin 905 (by decide +kernel) rfl), by decide +kernel, rfl, rfl⟩, (zin 903 (by decide +kernel) rfl), (zin 904 (by decide +kernel) rfl)⟩
theorem fl_X4_15 : FL RX4 15 0 4 := ⟨RX0, TX0, 9, rfl, by decide, (zin 195 (by decide +kernel) rfl)⟩
theorem cls_X4_21 : CLS RX4 21 mJ9_abs_0f7a4 1 := ⟨⟨(zin 976 (by decide +kernel) rfl), (zin 62 (by decide +kernel) rfl), (zin 978 (by decide +kernel) rfl), by decide +kernel, rfl, rfl⟩, (zin 977 (by decide +kernel) rfl)⟩
theorem fl_X4_27 : FL RX4 27 0 0 := ⟨RX0, TX0, 9, rfl, by decide, (zin 180 (by decide +kernel) rfl)⟩
theorem clv_X4_31 : CLV RX4 31 mX2_placeCount 0 := ⟨⟨(zin 971 (by decide +kernel) rfl), (zin 51 (by decide +kernel) rfl), (zin 631 (by decide +kernel) rfl), by decide +kernel, rfl, rfl⟩, (zin 629 (by decide +kernel) rfl), (zin 630 (by decide +kernel) rfl)⟩
theorem clv_X4_37 : CLV RX4 37 mX4_weight 3 := ⟨⟨(zin 972 (by decide +kernel) rfl), (zin 60 (by decide +kernel) rfl), (zin 975 (by decide +kernel) rfl), by decide +kernel, rfl, rfl⟩, (zin 973 (by decide +kernel) rfl), (zin 974 (by decide +kernel) rfl)⟩
theorem fl_X4_41 : FL RX4 41 0 2 := ⟨RX0, TX0, 9, rfl, by decide, (zin 190 (by decide +kernel) rfl)⟩
theorem fl_X4_44 : FL RX4 44 0 1 := ⟨RX0, TX0, 9, rfl, by decide, (zin 185 (by decide +kernel) rfl)⟩
theorem fl_X4_48 : FL RX4 48 7 6 := ⟨RX7, TX7, 7, rfl, by decide, (zin 152 (by decide +kernel) rfl)⟩
theorem fl_X4_9 : FL RX4 9 4 0 := ⟨RX4, TX4, 3, rfl, by decide, (zin 387 (by decide +kernel) rfl)⟩
theorem clv_X4_53 : CLV RX4 53 mX4_allWeights 2 := ⟨⟨(zin 995 (by decide +kernel) rfl), (zin 60 (by decide +kernel) rfl), (zin 970 (by decide +kernel) rfl), by decide +kernel, rfl, rfl⟩, (zin 968 (by decide +kernel) rfl), (zin 969 (by decide +kernel) rfl)⟩
theorem fl_X4_57 : FL RX4 57 4 1 := ⟨RX4, TX4, 3, rfl, by decide, (zin 388 (by decide +kernel) rfl)⟩
theorem fp_X4_57 : FP RX4 57 4 1 .int := ⟨RX4, TX4, 3, rfl, by decide, (zin 388 (by decide +kernel) rfl), rfl, by decide +kernel⟩
theorem fl_X4_60 : FL RX4 60 4 2 := ⟨RX4, TX4, 3, rfl, by decide, (zin 390 (by decide +kernel) rfl)⟩
theorem fp_X4_60 : FP RX4 60 4 2 .int := ⟨RX4, TX4, 3, rfl, by decide, (zin 390 (by decide +kernel) rfl), rfl, by decide +kernel⟩
theorem clv_X4_63 : CLV RX4 63 mX4_meanIn 2 := ⟨⟨(zin 996 (by decide +kernel) rfl), (zin 60 (by decide +kernel) rfl), (zin 999 (by decide +kernel) rfl), by decide +kernel, rfl, rfl⟩, (zin 997 (by decide +kernel) rfl), (zin 998 (by decide +kernel) rfl)⟩
theorem clv_X5_29 : CLV RX5 29 mX5_startAnew 0 := ⟨⟨(zin 456 (by decide +kernel) rfl), (zin 54 (by decide +kernel) rfl), (zin 459 (by decide +kernel) rfl), by decide +kernel, rfl, rfl⟩, (zin 457 (by decide +kernel) rfl), (zin 458 (by decide +kernel) rfl)⟩
theorem fl_X5_12 : FL RX5 12 5 0 := ⟨RX5, TX5, 9, rfl, by decide, (zin 270 (by decide +kernel) rfl)⟩
theorem clv_X5_32 : CLV RX5 32 mX8_advance 0 := ⟨⟨(zin 469 (by decide +kernel) rfl), (zin 55 (by decide +kernel) rfl), (zin 472 (by decide +kernel) rfl), by decide +kernel, rfl, rfl⟩, (zin 470 (by decide +kernel) rfl), (zin 471 (by decide +kernel) rfl)⟩
theorem clv_X5_35 : CLV RX5 35 mX8_isSound 0 := ⟨⟨(zin 496 (by decide +kernel) rfl), (zin 55 (by decide +kernel) rfl), (zin 476 (by decide +kernel) rfl), by decide +kernel, rfl, rfl⟩, (zin 474 (by decide +kernel) rfl), (zin 475 (by decide +kernel) rfl)⟩
theorem fl_X5_39 : FL RX5 39 8 2 := ⟨RX8, TX8, 7, rfl, by decide, (zin 243 (by decide +kernel) rfl)⟩
theorem clv_X5_43 : CLV RX5 43 mX5_readLine 0 := ⟨⟨(zin 497 (by decide +kernel) rfl), (zin 54 (by decide +kernel) rfl), (zin 500 (by decide +kernel) rfl), by decide +kernel, rfl, rfl⟩, (zin 498 (by decide +kernel) rfl), (zin 499 (by decide +kernel) rfl)⟩
theorem fl_X5_46 : FL RX5 46 5 3 := ⟨RX5, TX5, 9, rfl, by decide, (zin 275 (by decide +kernel) rfl)⟩
theorem fp_X5_46 : FP RX5 46 5 3 .int := ⟨RX5, TX5, 9, rfl, by decide, (zin 275 (by decide +kernel) rfl), rfl, by decide +kernel⟩
theorem clv_X5_49 : CLV RX5 49 mX5_allIsThere 0 := ⟨⟨(zin 616 (by decide +kernel) rfl), (zin 54 (by decide +kernel) rfl), (zin 619 (by decide +kernel) rfl), by decide +kernel, rfl, rfl⟩, (zin 617 (by decide +kernel) rfl), (zin 618 (by decide +kernel) rfl)⟩
theorem fl_X5_52 : FL RX5 52 8 1 := ⟨RX8, TX8, 7, rfl, by decide, (zin 242 (by decide +kernel) rfl)⟩
theorem clv_X5_55 : CLV RX5 55 mX8_failAt 2 := ⟨⟨(zin 632 (by decide +kernel) rfl), (zin 55 (by decide +kernel) rfl), (zin 495 (by decide +kernel) rfl), by decide +kernel, rfl, rfl⟩, (zin 493 (by decide +kernel) rfl), (zin 494 (by decide +kernel) rfl)⟩
theorem clv_X5_59 : CLV RX5 59 mX5_rememberCells 0 := ⟨⟨(zin 633 (by decide +kernel) rfl), (zin 54 (by decide +kernel) rfl), (zin 636 (by decide +kernel) rfl), by decide +kernel, rfl, rfl⟩, (zin 634 (by decide +kernel) rfl), (zin 635 (by decide +kernel) rfl)⟩
theorem clv_X5_62 : CLV RX5 62 mX8_rewind 0 := ⟨⟨(zin 460 (by decide +kernel) rfl), (zin 55 (by decide +kernel) rfl), (zin 463 (by decide +kernel) rfl), by decide +kernel, rfl, rfl⟩, (zin 461 (by decide +kernel) rfl), (zin 462 (by decide +kernel) rfl)⟩
theorem fl_X5_21 : FL RX5 21 5 1 := ⟨RX5, TX5, 9, rfl, by decide, (zin 272 (by decide +kernel) rfl)⟩
theorem clv_X5_65 : CLV RX5 65 mX0_startAnew 0 := ⟨⟨(zin 464 (by decide +kernel) rfl), (zin 50 (by decide +kernel) rfl), (zin 467 (by decide +kernel) rfl), by decide +kernel, rfl, rfl⟩, (zin 465 (by decide +kernel) rfl), (zin 466 (by decide +kernel) rfl)⟩
theorem fl_X5_25 : FL RX5 25 5 2 := ⟨RX5, TX5, 9, rfl, by decide, (zin 274 (by decide +kernel) rfl)⟩
theorem cls_X5_66 : CLS RX5 66 mJ7_fill_53178 2 := ⟨⟨(zin 468 (by decide +kernel) rfl), (zin 53 (by decide +kernel) rfl), (zin 176 (by decide +kernel) rfl), by decide +kernel, rfl, rfl⟩, (zin 175 (by decide +kernel) rfl)⟩
theorem fl_X5_72 : FL RX5 72 5 4 := ⟨RX5, TX5, 9, rfl, by decide, (zin 277 (by decide +kernel) rfl)⟩
theorem fp_X5_72 : FP RX5 72 5 4 .int := ⟨RX5, TX5, 9, rfl, by decide, (zin 277 (by decide +kernel) rfl), rfl, by decide +kernel⟩
theorem fl_X5_75 : FL RX5 75 5 5 := ⟨RX5, TX5, 9, rfl, by decide, (zin 278 (by decide +kernel) rfl)⟩
theorem fp_X5_75 : FP RX5 75 5 5 .int := ⟨RX5, TX5, 9, rfl, by decide, (zin 278 (by decide +kernel) rfl), rfl, by decide +kernel⟩
theorem fl_X5_78 : FL RX5 78 5 6 := ⟨RX5, TX5, 9, rfl, by decide, (zin 279 (by decide +kernel) rfl)⟩
theorem fp_X5_78 : FP RX5 78 5 6 .int := ⟨RX5, TX5, 9, rfl, by decide, (zin 279 (by decide +kernel) rfl), rfl, by decide +kernel⟩
theorem fl_X5_81 : FL RX5 81 5 7 := ⟨RX5, TX5, 9, rfl, by decide, (zin 280 (by decide +kernel) rfl)⟩
theorem fp_X5_81 : FP RX5 81 5 7 .int := ⟨RX5, TX5, 9, rfl, by decide, (zin 280 (by decide +kernel) rfl), rfl, by decide +kernel⟩
theorem fl_X5_84 : FL RX5 84 5 8 := ⟨RX5, TX5, 9, rfl, by decide, (zin 281 (by decide +kernel) rfl)⟩
theorem fp_X5_84 : FP RX5 84 5 8 .boolean := ⟨RX5, TX5, 9, rfl, by decide, (zin 281 (by decide +kernel) rfl), rfl, by decide +kernel⟩
theorem fl_X5_88 : FL RX5 88 0 0 := ⟨RX0, TX0, 9, rfl, by decide, (zin 181 (by decide +kernel) rfl)⟩
theorem clv_X5_92 : CLV RX5 92 mX2_hasCell 1 := ⟨⟨(zin 620 (by decide +kernel) rfl), (zin 51 (by decide +kernel) rfl), (zin 623 (by decide +kernel) rfl), by decide +kernel, rfl, rfl⟩, (zin 621 (by decide +kernel) rfl), (zin 622 (by decide +kernel) rfl)⟩
theorem clv_X5_98 : CLV RX5 98 mX2_hasPlace 1 := ⟨⟨(zin 624 (by decide +kernel) rfl), (zin 51 (by decide +kernel) rfl), (zin 627 (by decide +kernel) rfl), by decide +kernel, rfl, rfl⟩, (zin 625 (by decide +kernel) rfl), (zin 626 (by decide +kernel) rfl)⟩
theorem fl_X5_101 : FL RX5 101 0 2 := ⟨RX0, TX0, 9, rfl, by decide, (zin 191 (by decide +kernel) rfl)⟩
theorem fl_X5_104 : FL RX5 104 0 1 := ⟨RX0, TX0, 9, rfl, by decide, (zin 186 (by decide +kernel) rfl)⟩
theorem fl_X5_108 : FL RX5 108 7 6 := ⟨RX7, TX7, 7, rfl, by decide, (zin 153 (by decide +kernel) rfl)⟩
theorem fp_X5_108 : FP RX5 108 7 6 .int := ⟨RX7, TX7, 7, rfl, by decide, (zin 153 (by decide +kernel) rfl), rfl, by decide +kernel⟩
theorem clv_X5_113 : CLV RX5 113 mX8_isName 1 := ⟨⟨(zin 502 (by decide +kernel) rfl), (zin 55 (by decide +kernel) rfl), (zin 505 (by decide +kernel) rfl), by decide +kernel, rfl, rfl⟩, (zin 503 (by decide +kernel) rfl), (zin 504 (by decide +kernel) rfl)⟩
theorem clv_X5_117 : CLV RX5 117 mX5_readFire 0 := ⟨⟨(zin 554 (by decide +kernel) rfl), (zin 54 (by decide +kernel) rfl), (zin 557 (by decide +kernel) rfl), by decide +kernel, rfl, rfl⟩, (zin 555 (by decide +kernel) rfl), (zin 556 (by decide +kernel) rfl)⟩
theorem clv_X5_122 : CLV RX5 122 mX5_readHeat 0 := ⟨⟨(zin 569 (by decide +kernel) rfl), (zin 54 (by decide +kernel) rfl), (zin 572 (by decide +kernel) rfl), by decide +kernel, rfl, rfl⟩, (zin 570 (by decide +kernel) rfl), (zin 571 (by decide +kernel) rfl)⟩
theorem clv_X5_127 : CLV RX5 127 mX5_readWood 0 := ⟨⟨(zin 577 (by decide +kernel) rfl), (zin 54 (by decide +kernel) rfl), (zin 580 (by decide +kernel) rfl), by decide +kernel, rfl, rfl⟩, (zin 578 (by decide +kernel) rfl), (zin 579 (by decide +kernel) rfl)⟩
theorem clv_X5_132 : CLV RX5 132 mX5_readSpud 1 := ⟨⟨(zin 586 (by decide +kernel) rfl), (zin 54 (by decide +kernel) rfl), (zin 589 (by decide +kernel) rfl), by decide +kernel, rfl, rfl⟩, (zin 587 (by decide +kernel) rfl), (zin 588 (by decide +kernel) rfl)⟩
theorem clv_X5_140 : CLV RX5 140 mX5_readMemo 0 := ⟨⟨(zin 612 (by decide +kernel) rfl), (zin 54 (by decide +kernel) rfl), (zin 615 (by decide +kernel) rfl), by decide +kernel, rfl, rfl⟩, (zin 613 (by decide +kernel) rfl), (zin 614 (by decide +kernel) rfl)⟩
theorem clv_X5_143 : CLV RX5 143 mX8_fail 1 := ⟨⟨(zin 558 (by decide +kernel) rfl), (zin 55 (by decide +kernel) rfl), (zin 491 (by decide +kernel) rfl), by decide +kernel, rfl, rfl⟩, (zin 489 (by decide +kernel) rfl), (zin 490 (by decide +kernel) rfl)⟩
theorem clv_X5_147 : CLV RX5 147 mX8_takeNumber 2 := ⟨⟨(zin 559 (by decide +kernel) rfl), (zin 55 (by decide +kernel) rfl), (zin 562 (by decide +kernel) rfl), by decide +kernel, rfl, rfl⟩, (zin 560 (by decide +kernel) rfl), (zin 561 (by decide +kernel) rfl)⟩
theorem fl_X5_151 : FL RX5 151 2 0 := ⟨RX2, TX2, 8, rfl, by decide, (zin 91 (by decide +kernel) rfl)⟩
theorem fp_X5_151 : FP RX5 151 2 0 .int := ⟨RX2, TX2, 8, rfl, by decide, (zin 91 (by decide +kernel) rfl), rfl, by decide +kernel⟩
theorem fl_X5_154 : FL RX5 154 2 1 := ⟨RX2, TX2, 8, rfl, by decide, (zin 94 (by decide +kernel) rfl)⟩
theorem fp_X5_154 : FP RX5 154 2 1 .int := ⟨RX2, TX2, 8, rfl, by decide, (zin 94 (by decide +kernel) rfl), rfl, by decide +kernel⟩
theorem fl_X5_157 : FL RX5 157 2 2 := ⟨RX2, TX2, 8, rfl, by decide, (zin 97 (by decide +kernel) rfl)⟩
theorem fp_X5_157 : FP RX5 157 2 2 .int := ⟨RX2, TX2, 8, rfl, by decide, (zin 97 (by decide +kernel) rfl), rfl, by decide +kernel⟩
theorem clv_X5_160 : CLV RX5 160 mX8_takeMark 0 := ⟨⟨(zin 564 (by decide +kernel) rfl), (zin 55 (by decide +kernel) rfl), (zin 567 (by decide +kernel) rfl), by decide +kernel, rfl, rfl⟩, (zin 565 (by decide +kernel) rfl), (zin 566 (by decide +kernel) rfl)⟩
theorem cls_X5_163 : CLS RX5 163 mJ9_max_7cf53 2 := ⟨⟨(zin 573 (by decide +kernel) rfl), (zin 62 (by decide +kernel) rfl), (zin 575 (by decide +kernel) rfl), by decide +kernel, rfl, rfl⟩, (zin 574 (by decide +kernel) rfl)⟩
theorem fl_X5_168 : FL RX5 168 2 4 := ⟨RX2, TX2, 8, rfl, by decide, (zin 104 (by decide +kernel) rfl)⟩
theorem fl_X5_171 : FL RX5 171 2 3 := ⟨RX2, TX2, 8, rfl, by decide, (zin 101 (by decide +kernel) rfl)⟩
theorem clv_X5_174 : CLV RX5 174 mX2_layWood 3 := ⟨⟨(zin 581 (by decide +kernel) rfl), (zin 51 (by decide +kernel) rfl), (zin 584 (by decide +kernel) rfl), by decide +kernel, rfl, rfl⟩, (zin 582 (by decide +kernel) rfl), (zin 583 (by decide +kernel) rfl)⟩
theorem clv_X5_178 : CLV RX5 178 mX8_takeWrap 0 := ⟨⟨(zin 590 (by decide +kernel) rfl), (zin 55 (by decide +kernel) rfl), (zin 593 (by decide +kernel) rfl), by decide +kernel, rfl, rfl⟩, (zin 591 (by decide +kernel) rfl), (zin 592 (by decide +kernel) rfl)⟩
theorem clv_X5_182 : CLV RX5 182 mX0_whoLiesIn 1 := ⟨⟨(zin 598 (by decide +kernel) rfl), (zin 50 (by decide +kernel) rfl), (zin 601 (by decide +kernel) rfl), by decide +kernel, rfl, rfl⟩, (zin 599 (by decide +kernel) rfl), (zin 600 (by decide +kernel) rfl)⟩
theorem clv_X5_186 : CLV RX5 186 mX0_bring 2 := ⟨⟨(zin 602 (by decide +kernel) rfl), (zin 50 (by decide +kernel) rfl), (zin 605 (by decide +kernel) rfl), by decide +kernel, rfl, rfl⟩, (zin 603 (by decide +kernel) rfl), (zin 604 (by decide +kernel) rfl)⟩
theorem fl_X5_190 : FL RX5 190 7 2 := ⟨RX7, TX7, 7, rfl, by decide, (zin 145 (by decide +kernel) rfl)⟩
theorem fp_X5_190 : FP RX5 190 7 2 .int := ⟨RX7, TX7, 7, rfl, by decide, (zin 145 (by decide +kernel) rfl), rfl, by decide +kernel⟩
theorem fl_X6_19 : FL RX6 19 6 1 := ⟨RX6, TX6, 3, rfl, by decide, (zin 346 (by decide +kernel) rfl)⟩
theorem fp_X6_19 : FP RX6 19 6 1 .int := ⟨RX6, TX6, 3, rfl, by decide, (zin 346 (by decide +kernel) rfl), rfl, by decide +kernel⟩
theorem fl_X6_15 : FL RX6 15 6 2 := ⟨RX6, TX6, 3, rfl, by decide, (zin 347 (by decide +kernel) rfl)⟩
theorem fp_X6_15 : FP RX6 15 6 2 .int := ⟨RX6, TX6, 3, rfl, by decide, (zin 347 (by decide +kernel) rfl), rfl, by decide +kernel⟩
theorem fl_X6_9 : FL RX6 9 6 0 := ⟨RX6, TX6, 3, rfl, by decide, (zin 345 (by decide +kernel) rfl)⟩
theorem cls_X6_22 : CLS RX6 22 mJ7_fill_53178 2 := ⟨⟨(zin 1057 (by decide +kernel) rfl), (zin 53 (by decide +kernel) rfl), (zin 176 (by decide +kernel) rfl), by decide +kernel, rfl, rfl⟩, (zin 175 (by decide +kernel) rfl)⟩
theorem clv_X6_28 : CLV RX6 28 mX6_faultAt 1 := ⟨⟨(zin 1070 (by decide +kernel) rfl), (zin 58 (by decide +kernel) rfl), (zin 1065 (by decide +kernel) rfl), by decide +kernel, rfl, rfl⟩, (zin 1063 (by decide +kernel) rfl), (zin 1064 (by decide +kernel) rfl)⟩
theorem fl_X7_9 : FL RX7 9 7 0 := ⟨RX7, TX7, 7, rfl, by decide, (zin 139 (by decide +kernel) rfl)⟩
theorem fp_X7_9 : FP RX7 9 7 0 .int := ⟨RX7, TX7, 7, rfl, by decide, (zin 139 (by decide +kernel) rfl), rfl, by decide +kernel⟩
theorem fl_X7_15 : FL RX7 15 7 1 := ⟨RX7, TX7, 7, rfl, by decide, (zin 140 (by decide +kernel) rfl)⟩
theorem fp_X7_15 : FP RX7 15 7 1 .int := ⟨RX7, TX7, 7, rfl, by decide, (zin 140 (by decide +kernel) rfl), rfl, by decide +kernel⟩
theorem fl_X7_18 : FL RX7 18 7 2 := ⟨RX7, TX7, 7, rfl, by decide, (zin 143 (by decide +kernel) rfl)⟩
theorem fp_X7_18 : FP RX7 18 7 2 .int := ⟨RX7, TX7, 7, rfl, by decide, (zin 143 (by decide +kernel) rfl), rfl, by decide +kernel⟩
theorem fl_X7_21 : FL RX7 21 7 3 := ⟨RX7, TX7, 7, rfl, by decide, (zin 147 (by decide +kernel) rfl)⟩
theorem fp_X7_21 : FP RX7 21 7 3 .int := ⟨RX7, TX7, 7, rfl, by decide, (zin 147 (by decide +kernel) rfl), rfl, by decide +kernel⟩
theorem fl_X7_24 : FL RX7 24 7 4 := ⟨RX7, TX7, 7, rfl, by decide, (zin 148 (by decide +kernel) rfl)⟩
theorem fp_X7_24 : FP RX7 24 7 4 .int := ⟨RX7, TX7, 7, rfl, by decide, (zin 148 (by decide +kernel) rfl), rfl, by decide +kernel⟩
theorem fl_X7_27 : FL RX7 27 7 5 := ⟨RX7, TX7, 7, rfl, by decide, (zin 150 (by decide +kernel) rfl)⟩
theorem fp_X7_27 : FP RX7 27 7 5 .int := ⟨RX7, TX7, 7, rfl, by decide, (zin 150 (by decide +kernel) rfl), rfl, by decide +kernel⟩
theorem fl_X7_30 : FL RX7 30 7 6 := ⟨RX7, TX7, 7, rfl, by decide, (zin 151 (by decide +kernel) rfl)⟩
theorem fp_X7_30 : FP RX7 30 7 6 .int := ⟨RX7, TX7, 7, rfl, by decide, (zin 151 (by decide +kernel) rfl), rfl, by decide +kernel⟩
theorem cls_X7_33 : CLS RX7 33 mX7_coreShare 2 := ⟨⟨(zin 769 (by decide +kernel) rfl), (zin 52 (by decide +kernel) rfl), (zin 771 (by decide +kernel) rfl), by decide +kernel, rfl, rfl⟩, (zin 770 (by decide +kernel) rfl)⟩
theorem cls_X7_37 : CLS RX7 37 mJ9_min_7cf53 2 := ⟨⟨(zin 772 (by decide +kernel) rfl), (zin 62 (by decide +kernel) rfl), (zin 487 (by decide +kernel) rfl), by decide +kernel, rfl, rfl⟩, (zin 486 (by decide +kernel) rfl)⟩
theorem cls_X7_42 : CLS RX7 42 mX7_sideShare 2 := ⟨⟨(zin 773 (by decide +kernel) rfl), (zin 52 (by decide +kernel) rfl), (zin 775 (by decide +kernel) rfl), by decide +kernel, rfl, rfl⟩, (zin 774 (by decide +kernel) rfl)⟩
theorem clv_X7_45 : CLV RX7 45 mX7_wouldBeDone 1 := ⟨⟨(zin 686 (by decide +kernel) rfl), (zin 52 (by decide +kernel) rfl), (zin 689 (by decide +kernel) rfl), by decide +kernel, rfl, rfl⟩, (zin 687 (by decide +kernel) rfl), (zin 688 (by decide +kernel) rfl)⟩
theorem clv_X7_49 : CLV RX7 49 mX7_isDone 0 := ⟨⟨(zin 682 (by decide +kernel) rfl), (zin 52 (by decide +kernel) rfl), (zin 685 (by decide +kernel) rfl), by decide +kernel, rfl, rfl⟩, (zin 683 (by decide +kernel) rfl), (zin 684 (by decide +kernel) rfl)⟩
theorem clv_X7_53 : CLV RX7 53 mX7_isBlack 0 := ⟨⟨(zin 690 (by decide +kernel) rfl), (zin 52 (by decide +kernel) rfl), (zin 693 (by decide +kernel) rfl), by decide +kernel, rfl, rfl⟩, (zin 691 (by decide +kernel) rfl), (zin 692 (by decide +kernel) rfl)⟩
theorem clv_X7_56 : CLV RX7 56 mX7_isGood 0 := ⟨⟨(zin 694 (by decide +kernel) rfl), (zin 52 (by decide +kernel) rfl), (zin 697 (by decide +kernel) rfl), by decide +kernel, rfl, rfl⟩, (zin 695 (by decide +kernel) rfl), (zin 696 (by decide +kernel) rfl)⟩
theorem fl_X8_13 : FL RX8 13 8 1 := ⟨RX8, TX8, 7, rfl, by decide, (zin 240 (by decide +kernel) rfl)⟩
theorem fl_X8_9 : FL RX8 9 8 0 := ⟨RX8, TX8, 7, rfl, by decide, (zin 239 (by decide +kernel) rfl)⟩
theorem fp_X8_13 : FP RX8 13 8 1 .int := ⟨RX8, TX8, 7, rfl, by decide, (zin 240 (by decide +kernel) rfl), rfl, by decide +kernel⟩
theorem fl_X8_17 : FL RX8 17 8 2 := ⟨RX8, TX8, 7, rfl, by decide, (zin 244 (by decide +kernel) rfl)⟩
theorem fp_X8_17 : FP RX8 17 8 2 .int := ⟨RX8, TX8, 7, rfl, by decide, (zin 244 (by decide +kernel) rfl), rfl, by decide +kernel⟩
theorem fl_X8_20 : FL RX8 20 8 3 := ⟨RX8, TX8, 7, rfl, by decide, (zin 245 (by decide +kernel) rfl)⟩
theorem fp_X8_20 : FP RX8 20 8 3 .int := ⟨RX8, TX8, 7, rfl, by decide, (zin 245 (by decide +kernel) rfl), rfl, by decide +kernel⟩
theorem fl_X8_23 : FL RX8 23 8 4 := ⟨RX8, TX8, 7, rfl, by decide, (zin 246 (by decide +kernel) rfl)⟩
theorem fp_X8_23 : FP RX8 23 8 4 .int := ⟨RX8, TX8, 7, rfl, by decide, (zin 246 (by decide +kernel) rfl), rfl, by decide +kernel⟩
theorem fl_X8_26 : FL RX8 26 8 5 := ⟨RX8, TX8, 7, rfl, by decide, (zin 247 (by decide +kernel) rfl)⟩
theorem fp_X8_26 : FP RX8 26 8 5 .int := ⟨RX8, TX8, 7, rfl, by decide, (zin 247 (by decide +kernel) rfl), rfl, by decide +kernel⟩
theorem fl_X8_29 : FL RX8 29 8 6 := ⟨RX8, TX8, 7, rfl, by decide, (zin 249 (by decide +kernel) rfl)⟩
theorem fp_X8_29 : FP RX8 29 8 6 .int := ⟨RX8, TX8, 7, rfl, by decide, (zin 249 (by decide +kernel) rfl), rfl, by decide +kernel⟩
theorem clv_X8_32 : CLV RX8 32 mX8_failAt 2 := ⟨⟨(zin 492 (by decide +kernel) rfl), (zin 55 (by decide +kernel) rfl), (zin 495 (by decide +kernel) rfl), by decide +kernel, rfl, rfl⟩, (zin 493 (by decide +kernel) rfl), (zin 494 (by decide +kernel) rfl)⟩
theorem clv_X8_36 : CLV RX8 36 mX8_isSound 0 := ⟨⟨(zin 473 (by decide +kernel) rfl), (zin 55 (by decide +kernel) rfl), (zin 476 (by decide +kernel) rfl), by decide +kernel, rfl, rfl⟩, (zin 474 (by decide +kernel) rfl), (zin 475 (by decide +kernel) rfl)⟩
theorem clv_X8_40 : CLV RX8 40 mX8_kindAt 1 := ⟨⟨(zin 477 (by decide +kernel) rfl), (zin 55 (by decide +kernel) rfl), (zin 480 (by decide +kernel) rfl), by decide +kernel, rfl, rfl⟩, (zin 478 (by decide +kernel) rfl), (zin 479 (by decide +kernel) rfl)⟩
theorem cls_X8_44 : CLS RX8 44 mJ9_min_7cf53 2 := ⟨⟨(zin 485 (by decide +kernel) rfl), (zin 62 (by decide +kernel) rfl), (zin 487 (by decide +kernel) rfl), by decide +kernel, rfl, rfl⟩, (zin 486 (by decide +kernel) rfl)⟩
theorem clv_X8_50 : CLV RX8 50 mX8_fail 1 := ⟨⟨(zin 488 (by decide +kernel) rfl), (zin 55 (by decide +kernel) rfl), (zin 491 (by decide +kernel) rfl), by decide +kernel, rfl, rfl⟩, (zin 489 (by decide +kernel) rfl), (zin 490 (by decide +kernel) rfl)⟩
theorem clv_X8_54 : CLV RX8 54 mX8_byteAt 1 := ⟨⟨(zin 481 (by decide +kernel) rfl), (zin 55 (by decide +kernel) rfl), (zin 484 (by decide +kernel) rfl), by decide +kernel, rfl, rfl⟩, (zin 482 (by decide +kernel) rfl), (zin 483 (by decide +kernel) rfl)⟩
theorem clv_X8_57 : CLV RX8 57 mJ0_length_8abf5 0 := ⟨⟨(zin 506 (by decide +kernel) rfl), (zin 63 (by decide +kernel) rfl), (zin 509 (by decide +kernel) rfl), by decide +kernel, rfl, rfl⟩, (zin 507 (by decide +kernel) rfl), (zin 508 (by decide +kernel) rfl)⟩
theorem clv_X8_62 : CLV RX8 62 mJ0_charAt_5068e 1 := ⟨⟨(zin 516 (by decide +kernel) rfl), (zin 63 (by decide +kernel) rfl), (zin 519 (by decide +kernel) rfl), by decide +kernel, rfl, rfl⟩, (zin 517 (by decide +kernel) rfl), (zin 518 (by decide +kernel) rfl)⟩
theorem clv_X8_66 : CLV RX8 66 mX8_advance 0 := ⟨⟨(zin 563 (by decide +kernel) rfl), (zin 55 (by decide +kernel) rfl), (zin 472 (by decide +kernel) rfl), by decide +kernel, rfl, rfl⟩, (zin 470 (by decide +kernel) rfl), (zin 471 (by decide +kernel) rfl)⟩
theorem clv_X8_71 : CLV RX8 71 mX8_isName 1 := ⟨⟨(zin 595 (by decide +kernel) rfl), (zin 55 (by decide +kernel) rfl), (zin 505 (by decide +kernel) rfl), by decide +kernel, rfl, rfl⟩, (zin 503 (by decide +kernel) rfl), (zin 504 (by decide +kernel) rfl)⟩
theorem fl_X9_9 : FL RX9 9 9 0 := ⟨RX9, TX9, 2, rfl, by decide, (zin 307 (by decide +kernel) rfl)⟩
theorem cls_X9_18 : CLS RX9 18 mJ7_fill_53178 2 := ⟨⟨(zin 841 (by decide +kernel) rfl), (zin 53 (by decide +kernel) rfl), (zin 176 (by decide +kernel) rfl), by decide +kernel, rfl, rfl⟩, (zin 175 (by decide +kernel) rfl)⟩
theorem clv_X9_24 : CLV RX9 24 mX9_gatherEmbers 2 := ⟨⟨(zin 842 (by decide +kernel) rfl), (zin 56 (by decide +kernel) rfl), (zin 845 (by decide +kernel) rfl), by decide +kernel, rfl, rfl⟩, (zin 843 (by decide +kernel) rfl), (zin 844 (by decide +kernel) rfl)⟩
theorem clv_X9_28 : CLV RX9 28 mX2_heatAt 1 := ⟨⟨(zin 851 (by decide +kernel) rfl), (zin 51 (by decide +kernel) rfl), (zin 763 (by decide +kernel) rfl), by decide +kernel, rfl, rfl⟩, (zin 761 (by decide +kernel) rfl), (zin 762 (by decide +kernel) rfl)⟩
theorem clv_X9_34 : CLV RX9 34 mX2_lossAt 1 := ⟨⟨(zin 852 (by decide +kernel) rfl), (zin 51 (by decide +kernel) rfl), (zin 795 (by decide +kernel) rfl), by decide +kernel, rfl, rfl⟩, (zin 793 (by decide +kernel) rfl), (zin 794 (by decide +kernel) rfl)⟩
theorem clv_X9_37 : CLV RX9 37 mX9_follow 3 := ⟨⟨(zin 853 (by decide +kernel) rfl), (zin 56 (by decide +kernel) rfl), (zin 856 (by decide +kernel) rfl), by decide +kernel, rfl, rfl⟩, (zin 854 (by decide +kernel) rfl), (zin 855 (by decide +kernel) rfl)⟩
theorem fl_X9_15 : FL RX9 15 9 1 := ⟨RX9, TX9, 2, rfl, by decide, (zin 309 (by decide +kernel) rfl)⟩
theorem fl_X9_41 : FL RX9 41 2 3 := ⟨RX2, TX2, 8, rfl, by decide, (zin 99 (by decide +kernel) rfl)⟩
theorem fl_X9_45 : FL RX9 45 2 5 := ⟨RX2, TX2, 8, rfl, by decide, (zin 106 (by decide +kernel) rfl)⟩
theorem fl_X9_48 : FL RX9 48 2 6 := ⟨RX2, TX2, 8, rfl, by decide, (zin 109 (by decide +kernel) rfl)⟩
theorem fl_X9_51 : FL RX9 51 2 7 := ⟨RX2, TX2, 8, rfl, by decide, (zin 112 (by decide +kernel) rfl)⟩
theorem clv_X9_54 : CLV RX9 54 mX9_addEmber 3 := ⟨⟨(zin 846 (by decide +kernel) rfl), (zin 56 (by decide +kernel) rfl), (zin 849 (by decide +kernel) rfl), by decide +kernel, rfl, rfl⟩, (zin 847 (by decide +kernel) rfl), (zin 848 (by decide +kernel) rfl)⟩
theorem cls_X9_57 : CLS RX9 57 mX2_emberShare 2 := ⟨⟨(zin 850 (by decide +kernel) rfl), (zin 51 (by decide +kernel) rfl), (zin 786 (by decide +kernel) rfl), by decide +kernel, rfl, rfl⟩, (zin 785 (by decide +kernel) rfl)⟩
theorem cls_X9_61 : CLS RX9 61 mJ9_min_7cf53 2 := ⟨⟨(zin 857 (by decide +kernel) rfl), (zin 62 (by decide +kernel) rfl), (zin 487 (by decide +kernel) rfl), by decide +kernel, rfl, rfl⟩, (zin 486 (by decide +kernel) rfl)⟩
theorem cls_X9_66 : CLS RX9 66 mJ9_max_7cf53 2 := ⟨⟨(zin 858 (by decide +kernel) rfl), (zin 62 (by decide +kernel) rfl), (zin 575 (by decide +kernel) rfl), by decide +kernel, rfl, rfl⟩, (zin 574 (by decide +kernel) rfl)⟩
theorem cls_X9_69 : CLS RX9 69 mX7_coreShare 2 := ⟨⟨(zin 863 (by decide +kernel) rfl), (zin 52 (by decide +kernel) rfl), (zin 771 (by decide +kernel) rfl), by decide +kernel, rfl, rfl⟩, (zin 770 (by decide +kernel) rfl)⟩
theorem cls_X9_74 : CLS RX9 74 mX7_sideShare 2 := ⟨⟨(zin 868 (by decide +kernel) rfl), (zin 52 (by decide +kernel) rfl), (zin 775 (by decide +kernel) rfl), by decide +kernel, rfl, rfl⟩, (zin 774 (by decide +kernel) rfl)⟩
theorem lc_J6_265 : Cond.constant RJ6 265 (1431655765) ∈ zT := (zin 888 (by decide +kernel) rfl)
theorem lc_J6_266 : Cond.constant RJ6 266 (858993459) ∈ zT := (zin 889 (by decide +kernel) rfl)
theorem lc_J6_267 : Cond.constant RJ6 267 (252645135) ∈ zT := (zin 890 (by decide +kernel) rfl)
theorem clv_J0_335 : CLV RJ0 335 mJ0_coder_7d493 0 := ⟨⟨(zin 510 (by decide +kernel) rfl), (zin 63 (by decide +kernel) rfl), (zin 513 (by decide +kernel) rfl), by decide +kernel, rfl, rfl⟩, (zin 511 (by decide +kernel) rfl), (zin 512 (by decide +kernel) rfl)⟩
theorem clv_J0_492 : CLV RJ0 492 mJ0_isLatin1_aae02 0 := ⟨⟨(zin 520 (by decide +kernel) rfl), (zin 63 (by decide +kernel) rfl), (zin 523 (by decide +kernel) rfl), by decide +kernel, rfl, rfl⟩, (zin 521 (by decide +kernel) rfl), (zin 522 (by decide +kernel) rfl)⟩
theorem cls_J0_495 : CLS RJ0 495 mJ1_charAt_3b067 2 := ⟨⟨(zin 524 (by decide +kernel) rfl), (zin 64 (by decide +kernel) rfl), (zin 526 (by decide +kernel) rfl), by decide +kernel, rfl, rfl⟩, (zin 525 (by decide +kernel) rfl)⟩
theorem cls_J0_498 : CLS RJ0 498 mJ2_charAt_3b067 2 := ⟨⟨(zin 535 (by decide +kernel) rfl), (zin 66 (by decide +kernel) rfl), (zin 537 (by decide +kernel) rfl), by decide +kernel, rfl, rfl⟩, (zin 536 (by decide +kernel) rfl)⟩
theorem cls_J0_1059 : CLS RJ0 1059 mJ3_checkIndex_8e157 3 := ⟨⟨(zin 532 (by decide +kernel) rfl), (zin 65 (by decide +kernel) rfl), (zin 534 (by decide +kernel) rfl), by decide +kernel, rfl, rfl⟩, (zin 533 (by decide +kernel) rfl)⟩
theorem cls_J1_9 : CLS RJ1 9 mJ0_checkIndex_df160 2 := ⟨⟨(zin 527 (by decide +kernel) rfl), (zin 63 (by decide +kernel) rfl), (zin 529 (by decide +kernel) rfl), by decide +kernel, rfl, rfl⟩, (zin 528 (by decide +kernel) rfl)⟩
theorem cls_J2_48 : CLS RJ2 48 mJ2_length_9d52b 1 := ⟨⟨(zin 541 (by decide +kernel) rfl), (zin 66 (by decide +kernel) rfl), (zin 543 (by decide +kernel) rfl), by decide +kernel, rfl, rfl⟩, (zin 542 (by decide +kernel) rfl)⟩
theorem cls_J2_67 : CLS RJ2 67 mJ2_checkIndex_2214a 2 := ⟨⟨(zin 538 (by decide +kernel) rfl), (zin 66 (by decide +kernel) rfl), (zin 540 (by decide +kernel) rfl), by decide +kernel, rfl, rfl⟩, (zin 539 (by decide +kernel) rfl)⟩
theorem cls_J2_71 : CLS RJ2 71 mJ2_getChar_3b067 2 := ⟨⟨(zin 545 (by decide +kernel) rfl), (zin 66 (by decide +kernel) rfl), (zin 547 (by decide +kernel) rfl), by decide +kernel, rfl, rfl⟩, (zin 546 (by decide +kernel) rfl)⟩
theorem cls_J2_414 : CLS RJ2 414 mJ0_checkIndex_df160 2 := ⟨⟨(zin 544 (by decide +kernel) rfl), (zin 63 (by decide +kernel) rfl), (zin 529 (by decide +kernel) rfl), by decide +kernel, rfl, rfl⟩, (zin 528 (by decide +kernel) rfl)⟩
theorem fl_X10_30 : FL RX10 30 10 4 := ⟨RX10, TX10, 12, rfl, by decide, (zin 403 (by decide +kernel) rfl)⟩
theorem fl_X10_69 : FL RX10 69 5 0 := ⟨RX5, TX5, 9, rfl, by decide, (zin 271 (by decide +kernel) rfl)⟩
theorem clv_X10_73 : CLV RX10 73 mX8_append 1 := ⟨⟨(zin 440 (by decide +kernel) rfl), (zin 55 (by decide +kernel) rfl), (zin 443 (by decide +kernel) rfl), by decide +kernel, rfl, rfl⟩, (zin 441 (by decide +kernel) rfl), (zin 442 (by decide +kernel) rfl)⟩
theorem fl_X10_79 : FL RX10 79 8 1 := ⟨RX8, TX8, 7, rfl, by decide, (zin 241 (by decide +kernel) rfl)⟩
theorem fp_X10_79 : FP RX10 79 8 1 .int := ⟨RX8, TX8, 7, rfl, by decide, (zin 241 (by decide +kernel) rfl), rfl, by decide +kernel⟩
theorem clv_X10_83 : CLV RX10 83 mX5_readAll 0 := ⟨⟨(zin 452 (by decide +kernel) rfl), (zin 54 (by decide +kernel) rfl), (zin 455 (by decide +kernel) rfl), by decide +kernel, rfl, rfl⟩, (zin 453 (by decide +kernel) rfl), (zin 454 (by decide +kernel) rfl)⟩
theorem fl_X10_86 : FL RX10 86 8 5 := ⟨RX8, TX8, 7, rfl, by decide, (zin 248 (by decide +kernel) rfl)⟩
theorem fl_X10_89 : FL RX10 89 10 10 := ⟨RX10, TX10, 12, rfl, by decide, (zin 409 (by decide +kernel) rfl)⟩
theorem fp_X10_89 : FP RX10 89 10 10 .int := ⟨RX10, TX10, 12, rfl, by decide, (zin 409 (by decide +kernel) rfl), rfl, by decide +kernel⟩
theorem fl_X10_92 : FL RX10 92 8 6 := ⟨RX8, TX8, 7, rfl, by decide, (zin 250 (by decide +kernel) rfl)⟩
theorem fl_X10_12 : FL RX10 12 10 0 := ⟨RX10, TX10, 12, rfl, by decide, (zin 399 (by decide +kernel) rfl)⟩
theorem fl_X10_95 : FL RX10 95 5 1 := ⟨RX5, TX5, 9, rfl, by decide, (zin 273 (by decide +kernel) rfl)⟩
theorem clv_X10_98 : CLV RX10 98 mX0_copyFrom 1 := ⟨⟨(zin 637 (by decide +kernel) rfl), (zin 50 (by decide +kernel) rfl), (zin 640 (by decide +kernel) rfl), by decide +kernel, rfl, rfl⟩, (zin 638 (by decide +kernel) rfl), (zin 639 (by decide +kernel) rfl)⟩
theorem fl_X10_23 : FL RX10 23 10 3 := ⟨RX10, TX10, 12, rfl, by decide, (zin 402 (by decide +kernel) rfl)⟩
theorem fl_X10_102 : FL RX10 102 5 3 := ⟨RX5, TX5, 9, rfl, by decide, (zin 276 (by decide +kernel) rfl)⟩
theorem fl_X10_105 : FL RX10 105 0 0 := ⟨RX0, TX0, 9, rfl, by decide, (zin 182 (by decide +kernel) rfl)⟩
theorem fl_X10_109 : FL RX10 109 2 0 := ⟨RX2, TX2, 8, rfl, by decide, (zin 90 (by decide +kernel) rfl)⟩
theorem fl_X10_114 : FL RX10 114 2 1 := ⟨RX2, TX2, 8, rfl, by decide, (zin 93 (by decide +kernel) rfl)⟩
theorem fl_X10_117 : FL RX10 117 2 2 := ⟨RX2, TX2, 8, rfl, by decide, (zin 96 (by decide +kernel) rfl)⟩
theorem fl_X10_120 : FL RX10 120 2 3 := ⟨RX2, TX2, 8, rfl, by decide, (zin 100 (by decide +kernel) rfl)⟩
theorem fl_X10_123 : FL RX10 123 0 3 := ⟨RX0, TX0, 9, rfl, by decide, (zin 194 (by decide +kernel) rfl)⟩
theorem fl_X10_126 : FL RX10 126 0 2 := ⟨RX0, TX0, 9, rfl, by decide, (zin 192 (by decide +kernel) rfl)⟩
theorem fl_X10_129 : FL RX10 129 0 4 := ⟨RX0, TX0, 9, rfl, by decide, (zin 197 (by decide +kernel) rfl)⟩
theorem clv_X10_132 : CLV RX10 132 mX2_hasPlace 1 := ⟨⟨(zin 665 (by decide +kernel) rfl), (zin 51 (by decide +kernel) rfl), (zin 627 (by decide +kernel) rfl), by decide +kernel, rfl, rfl⟩, (zin 625 (by decide +kernel) rfl), (zin 626 (by decide +kernel) rfl)⟩
theorem fl_X10_135 : FL RX10 135 2 4 := ⟨RX2, TX2, 8, rfl, by decide, (zin 103 (by decide +kernel) rfl)⟩
theorem fl_X10_139 : FL RX10 139 2 5 := ⟨RX2, TX2, 8, rfl, by decide, (zin 107 (by decide +kernel) rfl)⟩
theorem fl_X10_142 : FL RX10 142 2 6 := ⟨RX2, TX2, 8, rfl, by decide, (zin 110 (by decide +kernel) rfl)⟩
theorem fl_X10_145 : FL RX10 145 2 7 := ⟨RX2, TX2, 8, rfl, by decide, (zin 113 (by decide +kernel) rfl)⟩
theorem clv_X10_148 : CLV RX10 148 mX0_hasSpud 1 := ⟨⟨(zin 674 (by decide +kernel) rfl), (zin 50 (by decide +kernel) rfl), (zin 677 (by decide +kernel) rfl), by decide +kernel, rfl, rfl⟩, (zin 675 (by decide +kernel) rfl), (zin 676 (by decide +kernel) rfl)⟩
theorem fl_X10_151 : FL RX10 151 0 1 := ⟨RX0, TX0, 9, rfl, by decide, (zin 187 (by decide +kernel) rfl)⟩
theorem clv_X10_155 : CLV RX10 155 mX7_tell 1 := ⟨⟨(zin 678 (by decide +kernel) rfl), (zin 52 (by decide +kernel) rfl), (zin 681 (by decide +kernel) rfl), by decide +kernel, rfl, rfl⟩, (zin 679 (by decide +kernel) rfl), (zin 680 (by decide +kernel) rfl)⟩
theorem cls_X10_161 : CLS RX10 161 mX10_isHeat 1 := ⟨⟨(zin 702 (by decide +kernel) rfl), (zin 49 (by decide +kernel) rfl), (zin 704 (by decide +kernel) rfl), by decide +kernel, rfl, rfl⟩, (zin 703 (by decide +kernel) rfl)⟩
theorem fp_X10_114 : FP RX10 114 2 1 .int := ⟨RX2, TX2, 8, rfl, by decide, (zin 93 (by decide +kernel) rfl), rfl, by decide +kernel⟩
theorem fp_X10_117 : FP RX10 117 2 2 .int := ⟨RX2, TX2, 8, rfl, by decide, (zin 96 (by decide +kernel) rfl), rfl, by decide +kernel⟩
theorem clv_X10_164 : CLV RX10 164 mX2_hasCell 1 := ⟨⟨(zin 713 (by decide +kernel) rfl), (zin 51 (by decide +kernel) rfl), (zin 623 (by decide +kernel) rfl), by decide +kernel, rfl, rfl⟩, (zin 621 (by decide +kernel) rfl), (zin 622 (by decide +kernel) rfl)⟩
theorem clv_X10_167 : CLV RX10 167 mX2_layWood 3 := ⟨⟨(zin 714 (by decide +kernel) rfl), (zin 51 (by decide +kernel) rfl), (zin 584 (by decide +kernel) rfl), by decide +kernel, rfl, rfl⟩, (zin 582 (by decide +kernel) rfl), (zin 583 (by decide +kernel) rfl)⟩
theorem cls_X10_171 : CLS RX10 171 mX10_isSort 2 := ⟨⟨(zin 719 (by decide +kernel) rfl), (zin 49 (by decide +kernel) rfl), (zin 721 (by decide +kernel) rfl), by decide +kernel, rfl, rfl⟩, (zin 720 (by decide +kernel) rfl)⟩
theorem clv_X10_175 : CLV RX10 175 mX0_bring 2 := ⟨⟨(zin 722 (by decide +kernel) rfl), (zin 50 (by decide +kernel) rfl), (zin 605 (by decide +kernel) rfl), by decide +kernel, rfl, rfl⟩, (zin 603 (by decide +kernel) rfl), (zin 604 (by decide +kernel) rfl)⟩
theorem clv_X10_178 : CLV RX10 178 mX0_whoLiesIn 1 := ⟨⟨(zin 727 (by decide +kernel) rfl), (zin 50 (by decide +kernel) rfl), (zin 601 (by decide +kernel) rfl), by decide +kernel, rfl, rfl⟩, (zin 599 (by decide +kernel) rfl), (zin 600 (by decide +kernel) rfl)⟩
theorem fl_X10_181 : FL RX10 181 7 2 := ⟨RX7, TX7, 7, rfl, by decide, (zin 146 (by decide +kernel) rfl)⟩
theorem fp_X10_181 : FP RX10 181 7 2 .int := ⟨RX7, TX7, 7, rfl, by decide, (zin 146 (by decide +kernel) rfl), rfl, by decide +kernel⟩
theorem clv_X10_184 : CLV RX10 184 mX7_turnOver 0 := ⟨⟨(zin 732 (by decide +kernel) rfl), (zin 52 (by decide +kernel) rfl), (zin 735 (by decide +kernel) rfl), by decide +kernel, rfl, rfl⟩, (zin 733 (by decide +kernel) rfl), (zin 734 (by decide +kernel) rfl)⟩
theorem fl_X10_187 : FL RX10 187 7 4 := ⟨RX7, TX7, 7, rfl, by decide, (zin 149 (by decide +kernel) rfl)⟩
theorem fl_X10_190 : FL RX10 190 7 1 := ⟨RX7, TX7, 7, rfl, by decide, (zin 142 (by decide +kernel) rfl)⟩
theorem fp_X10_190 : FP RX10 190 7 1 .int := ⟨RX7, TX7, 7, rfl, by decide, (zin 142 (by decide +kernel) rfl), rfl, by decide +kernel⟩
theorem fl_X10_193 : FL RX10 193 7 6 := ⟨RX7, TX7, 7, rfl, by decide, (zin 154 (by decide +kernel) rfl)⟩
theorem fp_X10_193 : FP RX10 193 7 6 .int := ⟨RX7, TX7, 7, rfl, by decide, (zin 154 (by decide +kernel) rfl), rfl, by decide +kernel⟩
theorem fp_X10_129 : FP RX10 129 0 4 .int := ⟨RX0, TX0, 9, rfl, by decide, (zin 197 (by decide +kernel) rfl), rfl, by decide +kernel⟩
theorem clv_X10_196 : CLV RX10 196 mX0_passRounds 1 := ⟨⟨(zin 752 (by decide +kernel) rfl), (zin 50 (by decide +kernel) rfl), (zin 755 (by decide +kernel) rfl), by decide +kernel, rfl, rfl⟩, (zin 753 (by decide +kernel) rfl), (zin 754 (by decide +kernel) rfl)⟩
theorem clv_X10_200 : CLV RX10 200 mX0_tally 1 := ⟨⟨(zin 801 (by decide +kernel) rfl), (zin 50 (by decide +kernel) rfl), (zin 804 (by decide +kernel) rfl), by decide +kernel, rfl, rfl⟩, (zin 802 (by decide +kernel) rfl), (zin 803 (by decide +kernel) rfl)⟩
theorem fl_X10_16 : FL RX10 16 10 1 := ⟨RX10, TX10, 12, rfl, by decide, (zin 400 (by decide +kernel) rfl)⟩
theorem clv_X10_203 : CLV RX10 203 mX7_isDone 0 := ⟨⟨(zin 823 (by decide +kernel) rfl), (zin 52 (by decide +kernel) rfl), (zin 685 (by decide +kernel) rfl), by decide +kernel, rfl, rfl⟩, (zin 683 (by decide +kernel) rfl), (zin 684 (by decide +kernel) rfl)⟩
theorem clv_X10_207 : CLV RX10 207 mX7_isBlack 0 := ⟨⟨(zin 824 (by decide +kernel) rfl), (zin 52 (by decide +kernel) rfl), (zin 693 (by decide +kernel) rfl), by decide +kernel, rfl, rfl⟩, (zin 691 (by decide +kernel) rfl), (zin 692 (by decide +kernel) rfl)⟩
theorem clv_X10_210 : CLV RX10 210 mX7_isGood 0 := ⟨⟨(zin 825 (by decide +kernel) rfl), (zin 52 (by decide +kernel) rfl), (zin 697 (by decide +kernel) rfl), by decide +kernel, rfl, rfl⟩, (zin 695 (by decide +kernel) rfl), (zin 696 (by decide +kernel) rfl)⟩
theorem clv_X10_213 : CLV RX10 213 mX0_passRound 0 := ⟨⟨(zin 826 (by decide +kernel) rfl), (zin 50 (by decide +kernel) rfl), (zin 759 (by decide +kernel) rfl), by decide +kernel, rfl, rfl⟩, (zin 757 (by decide +kernel) rfl), (zin 758 (by decide +kernel) rfl)⟩
theorem fl_X10_44 : FL RX10 44 10 6 := ⟨RX10, TX10, 12, rfl, by decide, (zin 405 (by decide +kernel) rfl)⟩
theorem fl_X10_37 : FL RX10 37 10 5 := ⟨RX10, TX10, 12, rfl, by decide, (zin 404 (by decide +kernel) rfl)⟩
theorem clv_X10_216 : CLV RX10 216 mX3_survey 3 := ⟨⟨(zin 831 (by decide +kernel) rfl), (zin 57 (by decide +kernel) rfl), (zin 834 (by decide +kernel) rfl), by decide +kernel, rfl, rfl⟩, (zin 832 (by decide +kernel) rfl), (zin 833 (by decide +kernel) rfl)⟩
theorem clv_X10_220 : CLV RX10 220 mX3_mostGood 2 := ⟨⟨(zin 881 (by decide +kernel) rfl), (zin 57 (by decide +kernel) rfl), (zin 884 (by decide +kernel) rfl), by decide +kernel, rfl, rfl⟩, (zin 882 (by decide +kernel) rfl), (zin 883 (by decide +kernel) rfl)⟩
theorem clv_X10_224 : CLV RX10 224 mX2_placeCount 0 := ⟨⟨(zin 892 (by decide +kernel) rfl), (zin 51 (by decide +kernel) rfl), (zin 631 (by decide +kernel) rfl), by decide +kernel, rfl, rfl⟩, (zin 629 (by decide +kernel) rfl), (zin 630 (by decide +kernel) rfl)⟩
theorem clv_X10_228 : CLV RX10 228 mX3_choose 1 := ⟨⟨(zin 893 (by decide +kernel) rfl), (zin 57 (by decide +kernel) rfl), (zin 896 (by decide +kernel) rfl), by decide +kernel, rfl, rfl⟩, (zin 894 (by decide +kernel) rfl), (zin 895 (by decide +kernel) rfl)⟩
theorem fl_X10_231 : FL RX10 231 3 2 := ⟨RX3, TX3, 5, rfl, by decide, (zin 324 (by decide +kernel) rfl)⟩
theorem clv_X10_234 : CLV RX10 234 mX9_followFor 3 := ⟨⟨(zin 910 (by decide +kernel) rfl), (zin 56 (by decide +kernel) rfl), (zin 840 (by decide +kernel) rfl), by decide +kernel, rfl, rfl⟩, (zin 838 (by decide +kernel) rfl), (zin 839 (by decide +kernel) rfl)⟩
theorem clv_X10_238 : CLV RX10 238 mX9_coreGain 2 := ⟨⟨(zin 911 (by decide +kernel) rfl), (zin 56 (by decide +kernel) rfl), (zin 862 (by decide +kernel) rfl), by decide +kernel, rfl, rfl⟩, (zin 860 (by decide +kernel) rfl), (zin 861 (by decide +kernel) rfl)⟩
theorem clv_X10_241 : CLV RX10 241 mX9_sideGain 3 := ⟨⟨(zin 912 (by decide +kernel) rfl), (zin 56 (by decide +kernel) rfl), (zin 867 (by decide +kernel) rfl), by decide +kernel, rfl, rfl⟩, (zin 865 (by decide +kernel) rfl), (zin 866 (by decide +kernel) rfl)⟩
theorem clv_X10_245 : CLV RX10 245 mX7_wouldBeGood 3 := ⟨⟨(zin 913 (by decide +kernel) rfl), (zin 52 (by decide +kernel) rfl), (zin 876 (by decide +kernel) rfl), by decide +kernel, rfl, rfl⟩, (zin 874 (by decide +kernel) rfl), (zin 875 (by decide +kernel) rfl)⟩
theorem clv_X10_248 : CLV RX10 248 mX9_gatherEmbers 2 := ⟨⟨(zin 918 (by decide +kernel) rfl), (zin 56 (by decide +kernel) rfl), (zin 845 (by decide +kernel) rfl), by decide +kernel, rfl, rfl⟩, (zin 843 (by decide +kernel) rfl), (zin 844 (by decide +kernel) rfl)⟩
theorem clv_X10_252 : CLV RX10 252 mX9_addEmber 3 := ⟨⟨(zin 919 (by decide +kernel) rfl), (zin 56 (by decide +kernel) rfl), (zin 849 (by decide +kernel) rfl), by decide +kernel, rfl, rfl⟩, (zin 847 (by decide +kernel) rfl), (zin 848 (by decide +kernel) rfl)⟩
theorem clv_X10_256 : CLV RX10 256 mX2_heatAt 1 := ⟨⟨(zin 920 (by decide +kernel) rfl), (zin 51 (by decide +kernel) rfl), (zin 763 (by decide +kernel) rfl), by decide +kernel, rfl, rfl⟩, (zin 761 (by decide +kernel) rfl), (zin 762 (by decide +kernel) rfl)⟩
theorem clv_X10_259 : CLV RX10 259 mX2_lossAt 1 := ⟨⟨(zin 921 (by decide +kernel) rfl), (zin 51 (by decide +kernel) rfl), (zin 795 (by decide +kernel) rfl), by decide +kernel, rfl, rfl⟩, (zin 793 (by decide +kernel) rfl), (zin 794 (by decide +kernel) rfl)⟩
theorem clv_X10_262 : CLV RX10 262 mX9_follow 3 := ⟨⟨(zin 922 (by decide +kernel) rfl), (zin 56 (by decide +kernel) rfl), (zin 856 (by decide +kernel) rfl), by decide +kernel, rfl, rfl⟩, (zin 854 (by decide +kernel) rfl), (zin 855 (by decide +kernel) rfl)⟩
theorem clv_X10_265 : CLV RX10 265 mX7_wouldBeDone 1 := ⟨⟨(zin 923 (by decide +kernel) rfl), (zin 52 (by decide +kernel) rfl), (zin 689 (by decide +kernel) rfl), by decide +kernel, rfl, rfl⟩, (zin 687 (by decide +kernel) rfl), (zin 688 (by decide +kernel) rfl)⟩
theorem clv_X10_268 : CLV RX10 268 mX0_noteFelt 3 := ⟨⟨(zin 932 (by decide +kernel) rfl), (zin 50 (by decide +kernel) rfl), (zin 935 (by decide +kernel) rfl), by decide +kernel, rfl, rfl⟩, (zin 933 (by decide +kernel) rfl), (zin 934 (by decide +kernel) rfl)⟩
theorem fl_X10_271 : FL RX10 271 0 5 := ⟨RX0, TX0, 9, rfl, by decide, (zin 200 (by decide +kernel) rfl)⟩
theorem fp_X10_271 : FP RX10 271 0 5 .int := ⟨RX0, TX0, 9, rfl, by decide, (zin 200 (by decide +kernel) rfl), rfl, by decide +kernel⟩
theorem fl_X10_58 : FL RX10 58 10 8 := ⟨RX10, TX10, 12, rfl, by decide, (zin 407 (by decide +kernel) rfl)⟩
theorem clv_X10_274 : CLV RX10 274 mX1_search 2 := ⟨⟨(zin 944 (by decide +kernel) rfl), (zin 59 (by decide +kernel) rfl), (zin 947 (by decide +kernel) rfl), by decide +kernel, rfl, rfl⟩, (zin 945 (by decide +kernel) rfl), (zin 946 (by decide +kernel) rfl)⟩
theorem fl_X10_278 : FL RX10 278 1 2 := ⟨RX1, TX1, 5, rfl, by decide, (zin 365 (by decide +kernel) rfl)⟩
theorem fl_X10_281 : FL RX10 281 1 3 := ⟨RX1, TX1, 5, rfl, by decide, (zin 367 (by decide +kernel) rfl)⟩
theorem fl_X10_284 : FL RX10 284 1 4 := ⟨RX1, TX1, 5, rfl, by decide, (zin 369 (by decide +kernel) rfl)⟩
theorem lc_X10_287 : Cond.constantLong RX10 287 (-1) ∈ zT := (zin 965 (by decide +kernel) rfl)
theorem lc_X10_289 : Cond.constantLong RX10 289 (-2) ∈ zT := (zin 966 (by decide +kernel) rfl)
theorem fl_X10_65 : FL RX10 65 10 9 := ⟨RX10, TX10, 12, rfl, by decide, (zin 408 (by decide +kernel) rfl)⟩
theorem clv_X10_291 : CLV RX10 291 mX4_allWeights 2 := ⟨⟨(zin 967 (by decide +kernel) rfl), (zin 60 (by decide +kernel) rfl), (zin 970 (by decide +kernel) rfl), by decide +kernel, rfl, rfl⟩, (zin 968 (by decide +kernel) rfl), (zin 969 (by decide +kernel) rfl)⟩
theorem lc_X10_295 : Cond.constantLong RX10 295 (-4) ∈ zT := (zin 979 (by decide +kernel) rfl)
theorem clv_X10_297 : CLV RX10 297 mX4_weight 3 := ⟨⟨(zin 980 (by decide +kernel) rfl), (zin 60 (by decide +kernel) rfl), (zin 975 (by decide +kernel) rfl), by decide +kernel, rfl, rfl⟩, (zin 973 (by decide +kernel) rfl), (zin 974 (by decide +kernel) rfl)⟩
theorem cls_X10_301 : CLS RX10 301 mX10_fractionPart 3 := ⟨⟨(zin 981 (by decide +kernel) rfl), (zin 49 (by decide +kernel) rfl), (zin 983 (by decide +kernel) rfl), by decide +kernel, rfl, rfl⟩, (zin 982 (by decide +kernel) rfl)⟩
theorem clv_X10_305 : CLV RX10 305 mX4_searchFullest 1 := ⟨⟨(zin 991 (by decide +kernel) rfl), (zin 60 (by decide +kernel) rfl), (zin 994 (by decide +kernel) rfl), by decide +kernel, rfl, rfl⟩, (zin 992 (by decide +kernel) rfl), (zin 993 (by decide +kernel) rfl)⟩
theorem fl_X10_308 : FL RX10 308 4 1 := ⟨RX4, TX4, 3, rfl, by decide, (zin 389 (by decide +kernel) rfl)⟩
theorem fl_X10_311 : FL RX10 311 4 2 := ⟨RX4, TX4, 3, rfl, by decide, (zin 391 (by decide +kernel) rfl)⟩
theorem lc_X10_314 : Cond.constantLong RX10 314 (27720) ∈ zT := (zin 1000 (by decide +kernel) rfl)
theorem clv_X10_316 : CLV RX10 316 mX0_mostWanted 1 := ⟨⟨(zin 1005 (by decide +kernel) rfl), (zin 50 (by decide +kernel) rfl), (zin 1008 (by decide +kernel) rfl), by decide +kernel, rfl, rfl⟩, (zin 1006 (by decide +kernel) rfl), (zin 1007 (by decide +kernel) rfl)⟩
theorem lc_X10_319 : Cond.constantLong RX10 319 (10) ∈ zT := (zin 1017 (by decide +kernel) rfl)
theorem cls_X10_321 : CLS RX10 321 mX10_stepSeed 1 := ⟨⟨(zin 1022 (by decide +kernel) rfl), (zin 49 (by decide +kernel) rfl), (zin 1024 (by decide +kernel) rfl), by decide +kernel, rfl, rfl⟩, (zin 1023 (by decide +kernel) rfl)⟩
theorem cls_X10_324 : CLS RX10 324 mX10_seedBits 1 := ⟨⟨(zin 1026 (by decide +kernel) rfl), (zin 49 (by decide +kernel) rfl), (zin 1028 (by decide +kernel) rfl), by decide +kernel, rfl, rfl⟩, (zin 1027 (by decide +kernel) rfl)⟩
theorem clv_X10_327 : CLV RX10 327 mX0_meddle 2 := ⟨⟨(zin 1029 (by decide +kernel) rfl), (zin 50 (by decide +kernel) rfl), (zin 1032 (by decide +kernel) rfl), by decide +kernel, rfl, rfl⟩, (zin 1030 (by decide +kernel) rfl), (zin 1031 (by decide +kernel) rfl)⟩
theorem fl_X10_19 : FL RX10 19 10 2 := ⟨RX10, TX10, 12, rfl, by decide, (zin 401 (by decide +kernel) rfl)⟩
theorem cls_X10_331 : CLS RX10 331 mX10_isSheet 1 := ⟨⟨(zin 1047 (by decide +kernel) rfl), (zin 49 (by decide +kernel) rfl), (zin 1049 (by decide +kernel) rfl), by decide +kernel, rfl, rfl⟩, (zin 1048 (by decide +kernel) rfl)⟩
theorem cls_X10_334 : CLS RX10 334 mX10_isLane 1 := ⟨⟨(zin 1050 (by decide +kernel) rfl), (zin 49 (by decide +kernel) rfl), (zin 1052 (by decide +kernel) rfl), by decide +kernel, rfl, rfl⟩, (zin 1051 (by decide +kernel) rfl)⟩
theorem fl_X10_51 : FL RX10 51 10 7 := ⟨RX10, TX10, 12, rfl, by decide, (zin 406 (by decide +kernel) rfl)⟩
theorem clv_X10_337 : CLV RX10 337 mX6_renew 2 := ⟨⟨(zin 1053 (by decide +kernel) rfl), (zin 58 (by decide +kernel) rfl), (zin 1056 (by decide +kernel) rfl), by decide +kernel, rfl, rfl⟩, (zin 1054 (by decide +kernel) rfl), (zin 1055 (by decide +kernel) rfl)⟩
theorem clv_X10_340 : CLV RX10 340 mX6_faultAt 1 := ⟨⟨(zin 1062 (by decide +kernel) rfl), (zin 58 (by decide +kernel) rfl), (zin 1065 (by decide +kernel) rfl), by decide +kernel, rfl, rfl⟩, (zin 1063 (by decide +kernel) rfl), (zin 1064 (by decide +kernel) rfl)⟩
theorem clv_X10_343 : CLV RX10 343 mX6_put 2 := ⟨⟨(zin 1066 (by decide +kernel) rfl), (zin 58 (by decide +kernel) rfl), (zin 1069 (by decide +kernel) rfl), by decide +kernel, rfl, rfl⟩, (zin 1067 (by decide +kernel) rfl), (zin 1068 (by decide +kernel) rfl)⟩
theorem clv_X10_346 : CLV RX10 346 mX6_pairFault 2 := ⟨⟨(zin 1075 (by decide +kernel) rfl), (zin 58 (by decide +kernel) rfl), (zin 1078 (by decide +kernel) rfl), by decide +kernel, rfl, rfl⟩, (zin 1076 (by decide +kernel) rfl), (zin 1077 (by decide +kernel) rfl)⟩
theorem clv_X10_349 : CLV RX10 349 mX6_valueAt 1 := ⟨⟨(zin 1079 (by decide +kernel) rfl), (zin 58 (by decide +kernel) rfl), (zin 1082 (by decide +kernel) rfl), by decide +kernel, rfl, rfl⟩, (zin 1080 (by decide +kernel) rfl), (zin 1081 (by decide +kernel) rfl)⟩
theorem clv_X10_352 : CLV RX10 352 mX10_bringSort 2 := ⟨⟨(zin 1083 (by decide +kernel) rfl), (zin 49 (by decide +kernel) rfl), (zin 1086 (by decide +kernel) rfl), by decide +kernel, rfl, rfl⟩, (zin 1085 (by decide +kernel) rfl), (zin 0 (by decide +kernel) rfl)⟩
theorem fp_X10_126 : FP RX10 126 0 2 .int := ⟨RX0, TX0, 9, rfl, by decide, (zin 192 (by decide +kernel) rfl), rfl, by decide +kernel⟩
theorem fl_X10_355 : FL RX10 355 10 11 := ⟨RX10, TX10, 12, rfl, by decide, (zin 410 (by decide +kernel) rfl)⟩
theorem fp_X10_355 : FP RX10 355 10 11 .int := ⟨RX10, TX10, 12, rfl, by decide, (zin 410 (by decide +kernel) rfl), rfl, by decide +kernel⟩
theorem fl_X10_358 : FL RX10 358 6 2 := ⟨RX6, TX6, 3, rfl, by decide, (zin 348 (by decide +kernel) rfl)⟩
theorem clv_X10_359 : CLV RX10 359 mX2_allHeat 0 := ⟨⟨(zin 1095 (by decide +kernel) rfl), (zin 51 (by decide +kernel) rfl), (zin 1098 (by decide +kernel) rfl), by decide +kernel, rfl, rfl⟩, (zin 1096 (by decide +kernel) rfl), (zin 1097 (by decide +kernel) rfl)⟩
theorem lc_X10_362 : Cond.constant RX10 362 (1103515245) ∈ zT := (zin 1025 (by decide +kernel) rfl)
theorem cls_X10_363 : CLS RX10 363 mX10_commonDivisor 2 := ⟨⟨(zin 984 (by decide +kernel) rfl), (zin 49 (by decide +kernel) rfl), (zin 986 (by decide +kernel) rfl), by decide +kernel, rfl, rfl⟩, (zin 985 (by decide +kernel) rfl)⟩
theorem fl_X11_20 : FL RX11 20 11 4 := ⟨RX11, TX11, 27, rfl, by decide, (zin 1117 (by decide +kernel) rfl)⟩
theorem fl_X11_50 : FL RX11 50 11 5 := ⟨RX11, TX11, 27, rfl, by decide, (zin 1118 (by decide +kernel) rfl)⟩
theorem fp_X11_50 : FP RX11 50 11 5 .int := ⟨RX11, TX11, 27, rfl, by decide, (zin 1118 (by decide +kernel) rfl), rfl, by decide +kernel⟩
theorem fl_X11_54 : FL RX11 54 11 6 := ⟨RX11, TX11, 27, rfl, by decide, (zin 1119 (by decide +kernel) rfl)⟩
theorem fp_X11_54 : FP RX11 54 11 6 .boolean := ⟨RX11, TX11, 27, rfl, by decide, (zin 1119 (by decide +kernel) rfl), rfl, by decide +kernel⟩
theorem fl_X11_58 : FL RX11 58 11 7 := ⟨RX11, TX11, 27, rfl, by decide, (zin 1120 (by decide +kernel) rfl)⟩
theorem fp_X11_58 : FP RX11 58 11 7 .int := ⟨RX11, TX11, 27, rfl, by decide, (zin 1120 (by decide +kernel) rfl), rfl, by decide +kernel⟩
theorem fl_X11_61 : FL RX11 61 11 8 := ⟨RX11, TX11, 27, rfl, by decide, (zin 1121 (by decide +kernel) rfl)⟩
theorem fp_X11_61 : FP RX11 61 11 8 .int := ⟨RX11, TX11, 27, rfl, by decide, (zin 1121 (by decide +kernel) rfl), rfl, by decide +kernel⟩
theorem fl_X11_64 : FL RX11 64 11 9 := ⟨RX11, TX11, 27, rfl, by decide, (zin 1122 (by decide +kernel) rfl)⟩
theorem fp_X11_64 : FP RX11 64 11 9 .int := ⟨RX11, TX11, 27, rfl, by decide, (zin 1122 (by decide +kernel) rfl), rfl, by decide +kernel⟩
theorem fl_X11_67 : FL RX11 67 11 10 := ⟨RX11, TX11, 27, rfl, by decide, (zin 1123 (by decide +kernel) rfl)⟩
theorem fp_X11_67 : FP RX11 67 11 10 .int := ⟨RX11, TX11, 27, rfl, by decide, (zin 1123 (by decide +kernel) rfl), rfl, by decide +kernel⟩
theorem fl_X11_70 : FL RX11 70 11 11 := ⟨RX11, TX11, 27, rfl, by decide, (zin 1124 (by decide +kernel) rfl)⟩
theorem fp_X11_70 : FP RX11 70 11 11 .int := ⟨RX11, TX11, 27, rfl, by decide, (zin 1124 (by decide +kernel) rfl), rfl, by decide +kernel⟩
theorem fl_X11_7 : FL RX11 7 11 0 := ⟨RX11, TX11, 27, rfl, by decide, (zin 1113 (by decide +kernel) rfl)⟩
theorem fl_X11_73 : FL RX11 73 11 3 := ⟨RX11, TX11, 27, rfl, by decide, (zin 1116 (by decide +kernel) rfl)⟩
theorem fp_X11_73 : FP RX11 73 11 3 .int := ⟨RX11, TX11, 27, rfl, by decide, (zin 1116 (by decide +kernel) rfl), rfl, by decide +kernel⟩
theorem fl_X11_16 : FL RX11 16 11 2 := ⟨RX11, TX11, 27, rfl, by decide, (zin 1115 (by decide +kernel) rfl)⟩
theorem lc_X11_76 : Cond.constantLong RX11 76 (127) ∈ zT := (zin 1199 (by decide +kernel) rfl)
theorem cls_X11_78 : CLS RX11 78 mX11_in 3 := ⟨⟨(zin 1200 (by decide +kernel) rfl), (zin 61 (by decide +kernel) rfl), (zin 1202 (by decide +kernel) rfl), by decide +kernel, rfl, rfl⟩, (zin 1201 (by decide +kernel) rfl)⟩
theorem fl_X11_82 : FL RX11 82 11 13 := ⟨RX11, TX11, 27, rfl, by decide, (zin 1126 (by decide +kernel) rfl)⟩
theorem fl_X11_23 : FL RX11 23 11 12 := ⟨RX11, TX11, 27, rfl, by decide, (zin 1125 (by decide +kernel) rfl)⟩
theorem fp_X11_82 : FP RX11 82 11 13 .int := ⟨RX11, TX11, 27, rfl, by decide, (zin 1126 (by decide +kernel) rfl), rfl, by decide +kernel⟩
theorem fl_X11_85 : FL RX11 85 11 18 := ⟨RX11, TX11, 27, rfl, by decide, (zin 1131 (by decide +kernel) rfl)⟩
theorem fp_X11_85 : FP RX11 85 11 18 .int := ⟨RX11, TX11, 27, rfl, by decide, (zin 1131 (by decide +kernel) rfl), rfl, by decide +kernel⟩
theorem fl_X11_88 : FL RX11 88 11 15 := ⟨RX11, TX11, 27, rfl, by decide, (zin 1128 (by decide +kernel) rfl)⟩
theorem fl_X11_91 : FL RX11 91 11 19 := ⟨RX11, TX11, 27, rfl, by decide, (zin 1132 (by decide +kernel) rfl)⟩
theorem fp_X11_91 : FP RX11 91 11 19 .int := ⟨RX11, TX11, 27, rfl, by decide, (zin 1132 (by decide +kernel) rfl), rfl, by decide +kernel⟩
theorem fl_X11_94 : FL RX11 94 11 14 := ⟨RX11, TX11, 27, rfl, by decide, (zin 1127 (by decide +kernel) rfl)⟩
theorem clv_X11_97 : CLV RX11 97 mX11_look 1 := ⟨⟨(zin 1215 (by decide +kernel) rfl), (zin 61 (by decide +kernel) rfl), (zin 1218 (by decide +kernel) rfl), by decide +kernel, rfl, rfl⟩, (zin 1217 (by decide +kernel) rfl), (zin 4 (by decide +kernel) rfl)⟩
theorem clv_X11_101 : CLV RX11 101 mX11_is 4 := ⟨⟨(zin 1235 (by decide +kernel) rfl), (zin 61 (by decide +kernel) rfl), (zin 1238 (by decide +kernel) rfl), by decide +kernel, rfl, rfl⟩, (zin 1237 (by decide +kernel) rfl), (zin 8 (by decide +kernel) rfl)⟩
theorem clv_X11_105 : CLV RX11 105 mX11_ends 1 := ⟨⟨(zin 1239 (by decide +kernel) rfl), (zin 61 (by decide +kernel) rfl), (zin 1242 (by decide +kernel) rfl), by decide +kernel, rfl, rfl⟩, (zin 1241 (by decide +kernel) rfl), (zin 9 (by decide +kernel) rfl)⟩
theorem fp_X11_94 : FP RX11 94 11 14 .int := ⟨RX11, TX11, 27, rfl, by decide, (zin 1127 (by decide +kernel) rfl), rfl, by decide +kernel⟩
theorem fp_X11_88 : FP RX11 88 11 15 .int := ⟨RX11, TX11, 27, rfl, by decide, (zin 1128 (by decide +kernel) rfl), rfl, by decide +kernel⟩
theorem fl_X11_109 : FL RX11 109 11 16 := ⟨RX11, TX11, 27, rfl, by decide, (zin 1129 (by decide +kernel) rfl)⟩
theorem fp_X11_109 : FP RX11 109 11 16 .int := ⟨RX11, TX11, 27, rfl, by decide, (zin 1129 (by decide +kernel) rfl), rfl, by decide +kernel⟩
theorem lc_X11_112 : Cond.constantLong RX11 112 (97) ∈ zT := (zin 1219 (by decide +kernel) rfl)
theorem lc_X11_114 : Cond.constantLong RX11 114 (122) ∈ zT := (zin 1220 (by decide +kernel) rfl)
theorem lc_X11_116 : Cond.constantLong RX11 116 (48) ∈ zT := (zin 1221 (by decide +kernel) rfl)
theorem lc_X11_118 : Cond.constantLong RX11 118 (57) ∈ zT := (zin 1222 (by decide +kernel) rfl)
theorem fl_X11_120 : FL RX11 120 11 17 := ⟨RX11, TX11, 27, rfl, by decide, (zin 1130 (by decide +kernel) rfl)⟩
theorem fp_X11_120 : FP RX11 120 11 17 .int := ⟨RX11, TX11, 27, rfl, by decide, (zin 1130 (by decide +kernel) rfl), rfl, by decide +kernel⟩
theorem clv_X11_123 : CLV RX11 123 mX11_needs 2 := ⟨⟨(zin 1223 (by decide +kernel) rfl), (zin 61 (by decide +kernel) rfl), (zin 1226 (by decide +kernel) rfl), by decide +kernel, rfl, rfl⟩, (zin 1225 (by decide +kernel) rfl), (zin 5 (by decide +kernel) rfl)⟩
theorem clv_X11_127 : CLV RX11 127 mX11_looked 2 := ⟨⟨(zin 1251 (by decide +kernel) rfl), (zin 61 (by decide +kernel) rfl), (zin 1254 (by decide +kernel) rfl), by decide +kernel, rfl, rfl⟩, (zin 1253 (by decide +kernel) rfl), (zin 12 (by decide +kernel) rfl)⟩
theorem clv_X11_131 : CLV RX11 131 mX11_next 0 := ⟨⟨(zin 1211 (by decide +kernel) rfl), (zin 61 (by decide +kernel) rfl), (zin 1214 (by decide +kernel) rfl), by decide +kernel, rfl, rfl⟩, (zin 1213 (by decide +kernel) rfl), (zin 3 (by decide +kernel) rfl)⟩
theorem clv_X11_134 : CLV RX11 134 mX11_lookedCell 0 := ⟨⟨(zin 1259 (by decide +kernel) rfl), (zin 61 (by decide +kernel) rfl), (zin 1262 (by decide +kernel) rfl), by decide +kernel, rfl, rfl⟩, (zin 1261 (by decide +kernel) rfl), (zin 14 (by decide +kernel) rfl)⟩
theorem clv_X11_138 : CLV RX11 138 mX11_wrapNow 0 := ⟨⟨(zin 1283 (by decide +kernel) rfl), (zin 61 (by decide +kernel) rfl), (zin 1286 (by decide +kernel) rfl), by decide +kernel, rfl, rfl⟩, (zin 1285 (by decide +kernel) rfl), (zin 20 (by decide +kernel) rfl)⟩
theorem clv_X11_141 : CLV RX11 141 mX11_readNumber 2 := ⟨⟨(zin 1247 (by decide +kernel) rfl), (zin 61 (by decide +kernel) rfl), (zin 1250 (by decide +kernel) rfl), by decide +kernel, rfl, rfl⟩, (zin 1249 (by decide +kernel) rfl), (zin 11 (by decide +kernel) rfl)⟩
theorem clv_X11_144 : CLV RX11 144 mX11_readCell 0 := ⟨⟨(zin 1267 (by decide +kernel) rfl), (zin 61 (by decide +kernel) rfl), (zin 1270 (by decide +kernel) rfl), by decide +kernel, rfl, rfl⟩, (zin 1269 (by decide +kernel) rfl), (zin 16 (by decide +kernel) rfl)⟩
theorem clv_X11_147 : CLV RX11 147 mX11_readWrap 0 := ⟨⟨(zin 1279 (by decide +kernel) rfl), (zin 61 (by decide +kernel) rfl), (zin 1282 (by decide +kernel) rfl), by decide +kernel, rfl, rfl⟩, (zin 1281 (by decide +kernel) rfl), (zin 19 (by decide +kernel) rfl)⟩
theorem clv_X11_150 : CLV RX11 150 mX11_readHeat 0 := ⟨⟨(zin 1255 (by decide +kernel) rfl), (zin 61 (by decide +kernel) rfl), (zin 1258 (by decide +kernel) rfl), by decide +kernel, rfl, rfl⟩, (zin 1257 (by decide +kernel) rfl), (zin 13 (by decide +kernel) rfl)⟩
theorem clv_X11_153 : CLV RX11 153 mX11_readWood 0 := ⟨⟨(zin 1263 (by decide +kernel) rfl), (zin 61 (by decide +kernel) rfl), (zin 1266 (by decide +kernel) rfl), by decide +kernel, rfl, rfl⟩, (zin 1265 (by decide +kernel) rfl), (zin 15 (by decide +kernel) rfl)⟩
theorem clv_X11_156 : CLV RX11 156 mX11_readMemo 0 := ⟨⟨(zin 1271 (by decide +kernel) rfl), (zin 61 (by decide +kernel) rfl), (zin 1274 (by decide +kernel) rfl), by decide +kernel, rfl, rfl⟩, (zin 1273 (by decide +kernel) rfl), (zin 17 (by decide +kernel) rfl)⟩
theorem clv_X11_159 : CLV RX11 159 mX11_readSpud 1 := ⟨⟨(zin 1275 (by decide +kernel) rfl), (zin 61 (by decide +kernel) rfl), (zin 1278 (by decide +kernel) rfl), by decide +kernel, rfl, rfl⟩, (zin 1277 (by decide +kernel) rfl), (zin 18 (by decide +kernel) rfl)⟩
theorem clv_X11_163 : CLV RX11 163 mX11_lineNow 0 := ⟨⟨(zin 1231 (by decide +kernel) rfl), (zin 61 (by decide +kernel) rfl), (zin 1234 (by decide +kernel) rfl), by decide +kernel, rfl, rfl⟩, (zin 1233 (by decide +kernel) rfl), (zin 7 (by decide +kernel) rfl)⟩
theorem clv_X11_166 : CLV RX11 166 mX11_readLineOf 1 := ⟨⟨(zin 1243 (by decide +kernel) rfl), (zin 61 (by decide +kernel) rfl), (zin 1246 (by decide +kernel) rfl), by decide +kernel, rfl, rfl⟩, (zin 1245 (by decide +kernel) rfl), (zin 10 (by decide +kernel) rfl)⟩
theorem clv_X11_44 : CLV RX11 44 mX11_firstDraft 0 := ⟨⟨(zin 1105 (by decide +kernel) rfl), (zin 61 (by decide +kernel) rfl), (zin 1108 (by decide +kernel) rfl), by decide +kernel, rfl, rfl⟩, (zin 1107 (by decide +kernel) rfl), (zin 1 (by decide +kernel) rfl)⟩
theorem clv_X11_170 : CLV RX11 170 mX11_readLine 0 := ⟨⟨(zin 1227 (by decide +kernel) rfl), (zin 61 (by decide +kernel) rfl), (zin 1230 (by decide +kernel) rfl), by decide +kernel, rfl, rfl⟩, (zin 1229 (by decide +kernel) rfl), (zin 6 (by decide +kernel) rfl)⟩
theorem clv_X11_47 : CLV RX11 47 mX11_keepDraft 0 := ⟨⟨(zin 1109 (by decide +kernel) rfl), (zin 61 (by decide +kernel) rfl), (zin 1112 (by decide +kernel) rfl), by decide +kernel, rfl, rfl⟩, (zin 1111 (by decide +kernel) rfl), (zin 2 (by decide +kernel) rfl)⟩
theorem fl_X11_13 : FL RX11 13 11 1 := ⟨RX11, TX11, 27, rfl, by decide, (zin 1114 (by decide +kernel) rfl)⟩
theorem clv_X11_173 : CLV RX11 173 mX11_of 2 := ⟨⟨(zin 1325 (by decide +kernel) rfl), (zin 61 (by decide +kernel) rfl), (zin 1328 (by decide +kernel) rfl), by decide +kernel, rfl, rfl⟩, (zin 1327 (by decide +kernel) rfl), (zin 25 (by decide +kernel) rfl)⟩
theorem cls_X11_176 : CLS RX11 176 mX11_most 1 := ⟨⟨(zin 1406 (by decide +kernel) rfl), (zin 61 (by decide +kernel) rfl), (zin 1408 (by decide +kernel) rfl), by decide +kernel, rfl, rfl⟩, (zin 1407 (by decide +kernel) rfl)⟩
theorem clv_X11_179 : CLV RX11 179 mX11_becomesOf 3 := ⟨⟨(zin 1409 (by decide +kernel) rfl), (zin 61 (by decide +kernel) rfl), (zin 1412 (by decide +kernel) rfl), by decide +kernel, rfl, rfl⟩, (zin 1411 (by decide +kernel) rfl), (zin 34 (by decide +kernel) rfl)⟩
theorem clv_X11_183 : CLV RX11 183 mX11_embers 2 := ⟨⟨(zin 1417 (by decide +kernel) rfl), (zin 61 (by decide +kernel) rfl), (zin 1420 (by decide +kernel) rfl), by decide +kernel, rfl, rfl⟩, (zin 1419 (by decide +kernel) rfl), (zin 36 (by decide +kernel) rfl)⟩
theorem clv_X11_187 : CLV RX11 187 mX11_bakes 1 := ⟨⟨(zin 1402 (by decide +kernel) rfl), (zin 61 (by decide +kernel) rfl), (zin 1405 (by decide +kernel) rfl), by decide +kernel, rfl, rfl⟩, (zin 1404 (by decide +kernel) rfl), (zin 33 (by decide +kernel) rfl)⟩
theorem clv_X11_190 : CLV RX11 190 mX11_burns 0 := ⟨⟨(zin 1413 (by decide +kernel) rfl), (zin 61 (by decide +kernel) rfl), (zin 1416 (by decide +kernel) rfl), by decide +kernel, rfl, rfl⟩, (zin 1415 (by decide +kernel) rfl), (zin 35 (by decide +kernel) rfl)⟩
theorem clv_X11_193 : CLV RX11 193 mX11_cools 0 := ⟨⟨(zin 1421 (by decide +kernel) rfl), (zin 61 (by decide +kernel) rfl), (zin 1424 (by decide +kernel) rfl), by decide +kernel, rfl, rfl⟩, (zin 1423 (by decide +kernel) rfl), (zin 37 (by decide +kernel) rfl)⟩
theorem clv_X11_196 : CLV RX11 196 mX11_rounds 0 := ⟨⟨(zin 1398 (by decide +kernel) rfl), (zin 61 (by decide +kernel) rfl), (zin 1401 (by decide +kernel) rfl), by decide +kernel, rfl, rfl⟩, (zin 1400 (by decide +kernel) rfl), (zin 32 (by decide +kernel) rfl)⟩
theorem clv_X11_199 : CLV RX11 199 mX11_isDone 1 := ⟨⟨(zin 1329 (by decide +kernel) rfl), (zin 61 (by decide +kernel) rfl), (zin 1332 (by decide +kernel) rfl), by decide +kernel, rfl, rfl⟩, (zin 1331 (by decide +kernel) rfl), (zin 26 (by decide +kernel) rfl)⟩
theorem clv_X11_202 : CLV RX11 202 mX11_isBlack 1 := ⟨⟨(zin 1336 (by decide +kernel) rfl), (zin 61 (by decide +kernel) rfl), (zin 1339 (by decide +kernel) rfl), by decide +kernel, rfl, rfl⟩, (zin 1338 (by decide +kernel) rfl), (zin 27 (by decide +kernel) rfl)⟩
theorem clv_X11_205 : CLV RX11 205 mX11_isGood 1 := ⟨⟨(zin 1340 (by decide +kernel) rfl), (zin 61 (by decide +kernel) rfl), (zin 1343 (by decide +kernel) rfl), by decide +kernel, rfl, rfl⟩, (zin 1342 (by decide +kernel) rfl), (zin 28 (by decide +kernel) rfl)⟩
theorem cls_X11_208 : CLS RX11 208 mX11_flag 1 := ⟨⟨(zin 1333 (by decide +kernel) rfl), (zin 61 (by decide +kernel) rfl), (zin 1335 (by decide +kernel) rfl), by decide +kernel, rfl, rfl⟩, (zin 1334 (by decide +kernel) rfl)⟩
theorem clv_X11_212 : CLV RX11 212 mX11_isPlace 1 := ⟨⟨(zin 1299 (by decide +kernel) rfl), (zin 61 (by decide +kernel) rfl), (zin 1302 (by decide +kernel) rfl), by decide +kernel, rfl, rfl⟩, (zin 1301 (by decide +kernel) rfl), (zin 21 (by decide +kernel) rfl)⟩
theorem lc_X11_215 : Cond.constantLong RX11 215 (2) ∈ zT := (zin 1307 (by decide +kernel) rfl)
theorem clv_X11_217 : CLV RX11 217 mX11_isSpud 1 := ⟨⟨(zin 1312 (by decide +kernel) rfl), (zin 61 (by decide +kernel) rfl), (zin 1315 (by decide +kernel) rfl), by decide +kernel, rfl, rfl⟩, (zin 1314 (by decide +kernel) rfl), (zin 22 (by decide +kernel) rfl)⟩
theorem lc_X11_220 : Cond.constantLong RX11 220 (9) ∈ zT := (zin 1316 (by decide +kernel) rfl)
theorem clv_X11_222 : CLV RX11 222 mX11_starts 0 := ⟨⟨(zin 1317 (by decide +kernel) rfl), (zin 61 (by decide +kernel) rfl), (zin 1320 (by decide +kernel) rfl), by decide +kernel, rfl, rfl⟩, (zin 1319 (by decide +kernel) rfl), (zin 23 (by decide +kernel) rfl)⟩
theorem clv_X11_225 : CLV RX11 225 mX11_tells 2 := ⟨⟨(zin 1321 (by decide +kernel) rfl), (zin 61 (by decide +kernel) rfl), (zin 1324 (by decide +kernel) rfl), by decide +kernel, rfl, rfl⟩, (zin 1323 (by decide +kernel) rfl), (zin 24 (by decide +kernel) rfl)⟩
theorem lc_X11_228 : Cond.constantLong RX11 228 (99) ∈ zT := (zin 1348 (by decide +kernel) rfl)
theorem clv_X11_230 : CLV RX11 230 mX11_becomes 2 := ⟨⟨(zin 1349 (by decide +kernel) rfl), (zin 61 (by decide +kernel) rfl), (zin 1352 (by decide +kernel) rfl), by decide +kernel, rfl, rfl⟩, (zin 1351 (by decide +kernel) rfl), (zin 29 (by decide +kernel) rfl)⟩
theorem clv_X11_233 : CLV RX11 233 mX11_isCell 1 := ⟨⟨(zin 1361 (by decide +kernel) rfl), (zin 61 (by decide +kernel) rfl), (zin 1364 (by decide +kernel) rfl), by decide +kernel, rfl, rfl⟩, (zin 1363 (by decide +kernel) rfl), (zin 30 (by decide +kernel) rfl)⟩
theorem lc_X11_236 : Cond.constantLong RX11 236 (60) ∈ zT := (zin 1393 (by decide +kernel) rfl)
theorem clv_X11_238 : CLV RX11 238 mX11_roundsAll 1 := ⟨⟨(zin 1394 (by decide +kernel) rfl), (zin 61 (by decide +kernel) rfl), (zin 1397 (by decide +kernel) rfl), by decide +kernel, rfl, rfl⟩, (zin 1396 (by decide +kernel) rfl), (zin 31 (by decide +kernel) rfl)⟩
theorem clv_X11_241 : CLV RX11 241 mX11_goods 0 := ⟨⟨(zin 1425 (by decide +kernel) rfl), (zin 61 (by decide +kernel) rfl), (zin 1428 (by decide +kernel) rfl), by decide +kernel, rfl, rfl⟩, (zin 1427 (by decide +kernel) rfl), (zin 38 (by decide +kernel) rfl)⟩
theorem fl_X11_26 : FL RX11 26 11 20 := ⟨RX11, TX11, 27, rfl, by decide, (zin 1133 (by decide +kernel) rfl)⟩
theorem fl_X11_29 : FL RX11 29 11 21 := ⟨RX11, TX11, 27, rfl, by decide, (zin 1134 (by decide +kernel) rfl)⟩
theorem fl_X11_32 : FL RX11 32 11 22 := ⟨RX11, TX11, 27, rfl, by decide, (zin 1135 (by decide +kernel) rfl)⟩
theorem cls_X11_244 : CLS RX11 244 mX11_bitsOf 1 := ⟨⟨(zin 1454 (by decide +kernel) rfl), (zin 61 (by decide +kernel) rfl), (zin 1456 (by decide +kernel) rfl), by decide +kernel, rfl, rfl⟩, (zin 1455 (by decide +kernel) rfl)⟩
theorem clv_X11_247 : CLV RX11 247 mX11_mostFrom 2 := ⟨⟨(zin 1450 (by decide +kernel) rfl), (zin 61 (by decide +kernel) rfl), (zin 1453 (by decide +kernel) rfl), by decide +kernel, rfl, rfl⟩, (zin 1452 (by decide +kernel) rfl), (zin 40 (by decide +kernel) rfl)⟩
theorem lc_X11_250 : Cond.constantLong RX11 250 (20) ∈ zT := (zin 1445 (by decide +kernel) rfl)
theorem clv_X11_252 : CLV RX11 252 mX11_findGoods 1 := ⟨⟨(zin 1446 (by decide +kernel) rfl), (zin 61 (by decide +kernel) rfl), (zin 1449 (by decide +kernel) rfl), by decide +kernel, rfl, rfl⟩, (zin 1448 (by decide +kernel) rfl), (zin 39 (by decide +kernel) rfl)⟩
theorem clv_X11_255 : CLV RX11 255 mX11_placeOf 3 := ⟨⟨(zin 1457 (by decide +kernel) rfl), (zin 61 (by decide +kernel) rfl), (zin 1460 (by decide +kernel) rfl), by decide +kernel, rfl, rfl⟩, (zin 1459 (by decide +kernel) rfl), (zin 41 (by decide +kernel) rfl)⟩
theorem clv_X11_259 : CLV RX11 259 mX11_isSo 2 := ⟨⟨(zin 1485 (by decide +kernel) rfl), (zin 61 (by decide +kernel) rfl), (zin 1488 (by decide +kernel) rfl), by decide +kernel, rfl, rfl⟩, (zin 1487 (by decide +kernel) rfl), (zin 42 (by decide +kernel) rfl)⟩
theorem clv_X11_263 : CLV RX11 263 mX11_weightOf 2 := ⟨⟨(zin 1499 (by decide +kernel) rfl), (zin 61 (by decide +kernel) rfl), (zin 1502 (by decide +kernel) rfl), by decide +kernel, rfl, rfl⟩, (zin 1501 (by decide +kernel) rfl), (zin 44 (by decide +kernel) rfl)⟩
theorem cls_X11_266 : CLS RX11 266 mX11_common 2 := ⟨⟨(zin 1507 (by decide +kernel) rfl), (zin 61 (by decide +kernel) rfl), (zin 1509 (by decide +kernel) rfl), by decide +kernel, rfl, rfl⟩, (zin 1508 (by decide +kernel) rfl)⟩
theorem lc_X11_270 : Cond.constantLong RX11 270 (-1) ∈ zT := (zin 1493 (by decide +kernel) rfl)
theorem lc_X11_272 : Cond.constantLong RX11 272 (-2) ∈ zT := (zin 1494 (by decide +kernel) rfl)
theorem clv_X11_274 : CLV RX11 274 mX11_allOf 1 := ⟨⟨(zin 1495 (by decide +kernel) rfl), (zin 61 (by decide +kernel) rfl), (zin 1498 (by decide +kernel) rfl), by decide +kernel, rfl, rfl⟩, (zin 1497 (by decide +kernel) rfl), (zin 43 (by decide +kernel) rfl)⟩
theorem lc_X11_277 : Cond.constantLong RX11 277 (-4) ∈ zT := (zin 1503 (by decide +kernel) rfl)
theorem cls_X11_279 : CLS RX11 279 mX11_told 3 := ⟨⟨(zin 1504 (by decide +kernel) rfl), (zin 61 (by decide +kernel) rfl), (zin 1506 (by decide +kernel) rfl), by decide +kernel, rfl, rfl⟩, (zin 1505 (by decide +kernel) rfl)⟩
theorem lc_X11_283 : Cond.constantLong RX11 283 (27720) ∈ zT := (zin 1514 (by decide +kernel) rfl)
theorem clv_X11_285 : CLV RX11 285 mX11_isBefore 2 := ⟨⟨(zin 1519 (by decide +kernel) rfl), (zin 61 (by decide +kernel) rfl), (zin 1522 (by decide +kernel) rfl), by decide +kernel, rfl, rfl⟩, (zin 1521 (by decide +kernel) rfl), (zin 45 (by decide +kernel) rfl)⟩
theorem lc_X11_288 : Cond.constantLong RX11 288 (3) ∈ zT := (zin 1527 (by decide +kernel) rfl)
theorem lc_X11_290 : Cond.constantLong RX11 290 (10) ∈ zT := (zin 1528 (by decide +kernel) rfl)
theorem lc_X11_292 : Cond.constant RX11 292 (1103515245) ∈ zT := (zin 1533 (by decide +kernel) rfl)
theorem clv_X11_293 : CLV RX11 293 mX11_blacks 0 := ⟨⟨(zin 1534 (by decide +kernel) rfl), (zin 61 (by decide +kernel) rfl), (zin 1537 (by decide +kernel) rfl), by decide +kernel, rfl, rfl⟩, (zin 1536 (by decide +kernel) rfl), (zin 46 (by decide +kernel) rfl)⟩
theorem clv_X11_296 : CLV RX11 296 mX11_copies 2 := ⟨⟨(zin 1542 (by decide +kernel) rfl), (zin 61 (by decide +kernel) rfl), (zin 1545 (by decide +kernel) rfl), by decide +kernel, rfl, rfl⟩, (zin 1544 (by decide +kernel) rfl), (zin 47 (by decide +kernel) rfl)⟩
theorem cls_X11_299 : CLS RX11 299 mX11_isSheet 2 := ⟨⟨(zin 1554 (by decide +kernel) rfl), (zin 61 (by decide +kernel) rfl), (zin 1556 (by decide +kernel) rfl), by decide +kernel, rfl, rfl⟩, (zin 1555 (by decide +kernel) rfl)⟩
theorem fl_X11_35 : FL RX11 35 11 23 := ⟨RX11, TX11, 27, rfl, by decide, (zin 1136 (by decide +kernel) rfl)⟩
theorem fl_X11_38 : FL RX11 38 11 24 := ⟨RX11, TX11, 27, rfl, by decide, (zin 1137 (by decide +kernel) rfl)⟩
theorem fl_X11_41 : FL RX11 41 11 25 := ⟨RX11, TX11, 27, rfl, by decide, (zin 1138 (by decide +kernel) rfl)⟩
theorem lc_X11_302 : Cond.constantLong RX11 302 (13) ∈ zT := (zin 1565 (by decide +kernel) rfl)
theorem clv_X11_304 : CLV RX11 304 mX11_add 2 := ⟨⟨(zin 1566 (by decide +kernel) rfl), (zin 61 (by decide +kernel) rfl), (zin 1368 (by decide +kernel) rfl), by decide +kernel, rfl, rfl⟩, (zin 1366 (by decide +kernel) rfl), (zin 1367 (by decide +kernel) rfl)⟩
theorem fl_X11_307 : FL RX11 307 11 26 := ⟨RX11, TX11, 27, rfl, by decide, (zin 1139 (by decide +kernel) rfl)⟩
theorem fp_X11_307 : FP RX11 307 11 26 .int := ⟨RX11, TX11, 27, rfl, by decide, (zin 1139 (by decide +kernel) rfl), rfl, by decide +kernel⟩
theorem clv_L_13 : CLV RL 13 mX10_feed 1 := ⟨⟨(zin 436 (by decide +kernel) rfl), (zin 49 (by decide +kernel) rfl), (zin 439 (by decide +kernel) rfl), by decide +kernel, rfl, rfl⟩, (zin 437 (by decide +kernel) rfl), (zin 438 (by decide +kernel) rfl)⟩
theorem clv_L_17 : CLV RL 17 mX11_feed 1 := ⟨⟨(zin 1195 (by decide +kernel) rfl), (zin 61 (by decide +kernel) rfl), (zin 1198 (by decide +kernel) rfl), by decide +kernel, rfl, rfl⟩, (zin 1196 (by decide +kernel) rfl), (zin 1197 (by decide +kernel) rfl)⟩
theorem clv_L_18 : CLV RL 18 mX10_end 1 := ⟨⟨(zin 444 (by decide +kernel) rfl), (zin 49 (by decide +kernel) rfl), (zin 447 (by decide +kernel) rfl), by decide +kernel, rfl, rfl⟩, (zin 445 (by decide +kernel) rfl), (zin 446 (by decide +kernel) rfl)⟩
theorem clv_L_21 : CLV RL 21 mX11_end 1 := ⟨⟨(zin 1203 (by decide +kernel) rfl), (zin 61 (by decide +kernel) rfl), (zin 1206 (by decide +kernel) rfl), by decide +kernel, rfl, rfl⟩, (zin 1204 (by decide +kernel) rfl), (zin 1205 (by decide +kernel) rfl)⟩
theorem clv_L_22 : CLV RL 22 mX10_text 0 := ⟨⟨(zin 448 (by decide +kernel) rfl), (zin 49 (by decide +kernel) rfl), (zin 451 (by decide +kernel) rfl), by decide +kernel, rfl, rfl⟩, (zin 449 (by decide +kernel) rfl), (zin 450 (by decide +kernel) rfl)⟩
theorem clv_L_26 : CLV RL 26 mX11_text 0 := ⟨⟨(zin 1207 (by decide +kernel) rfl), (zin 61 (by decide +kernel) rfl), (zin 1210 (by decide +kernel) rfl), by decide +kernel, rfl, rfl⟩, (zin 1208 (by decide +kernel) rfl), (zin 1209 (by decide +kernel) rfl)⟩
theorem clv_L_27 : CLV RL 27 mX10_fault 0 := ⟨⟨(zin 653 (by decide +kernel) rfl), (zin 49 (by decide +kernel) rfl), (zin 656 (by decide +kernel) rfl), by decide +kernel, rfl, rfl⟩, (zin 654 (by decide +kernel) rfl), (zin 655 (by decide +kernel) rfl)⟩
theorem clv_L_30 : CLV RL 30 mX11_fault 0 := ⟨⟨(zin 1287 (by decide +kernel) rfl), (zin 61 (by decide +kernel) rfl), (zin 1290 (by decide +kernel) rfl), by decide +kernel, rfl, rfl⟩, (zin 1288 (by decide +kernel) rfl), (zin 1289 (by decide +kernel) rfl)⟩
theorem clv_L_31 : CLV RL 31 mX10_rule 1 := ⟨⟨(zin 657 (by decide +kernel) rfl), (zin 49 (by decide +kernel) rfl), (zin 660 (by decide +kernel) rfl), by decide +kernel, rfl, rfl⟩, (zin 658 (by decide +kernel) rfl), (zin 659 (by decide +kernel) rfl)⟩
theorem clv_L_34 : CLV RL 34 mX11_rule 1 := ⟨⟨(zin 1291 (by decide +kernel) rfl), (zin 61 (by decide +kernel) rfl), (zin 1294 (by decide +kernel) rfl), by decide +kernel, rfl, rfl⟩, (zin 1292 (by decide +kernel) rfl), (zin 1293 (by decide +kernel) rfl)⟩
theorem clv_L_35 : CLV RL 35 mX10_heat 1 := ⟨⟨(zin 661 (by decide +kernel) rfl), (zin 49 (by decide +kernel) rfl), (zin 664 (by decide +kernel) rfl), by decide +kernel, rfl, rfl⟩, (zin 662 (by decide +kernel) rfl), (zin 663 (by decide +kernel) rfl)⟩
theorem clv_L_38 : CLV RL 38 mX11_heat 1 := ⟨⟨(zin 1295 (by decide +kernel) rfl), (zin 61 (by decide +kernel) rfl), (zin 1298 (by decide +kernel) rfl), by decide +kernel, rfl, rfl⟩, (zin 1296 (by decide +kernel) rfl), (zin 1297 (by decide +kernel) rfl)⟩
theorem clv_L_39 : CLV RL 39 mX10_wood 2 := ⟨⟨(zin 666 (by decide +kernel) rfl), (zin 49 (by decide +kernel) rfl), (zin 669 (by decide +kernel) rfl), by decide +kernel, rfl, rfl⟩, (zin 667 (by decide +kernel) rfl), (zin 668 (by decide +kernel) rfl)⟩
theorem clv_L_43 : CLV RL 43 mX11_wood 2 := ⟨⟨(zin 1303 (by decide +kernel) rfl), (zin 61 (by decide +kernel) rfl), (zin 1306 (by decide +kernel) rfl), by decide +kernel, rfl, rfl⟩, (zin 1304 (by decide +kernel) rfl), (zin 1305 (by decide +kernel) rfl)⟩
theorem clv_L_44 : CLV RL 44 mX10_spud 2 := ⟨⟨(zin 670 (by decide +kernel) rfl), (zin 49 (by decide +kernel) rfl), (zin 673 (by decide +kernel) rfl), by decide +kernel, rfl, rfl⟩, (zin 671 (by decide +kernel) rfl), (zin 672 (by decide +kernel) rfl)⟩
theorem clv_L_47 : CLV RL 47 mX11_spud 2 := ⟨⟨(zin 1308 (by decide +kernel) rfl), (zin 61 (by decide +kernel) rfl), (zin 1311 (by decide +kernel) rfl), by decide +kernel, rfl, rfl⟩, (zin 1309 (by decide +kernel) rfl), (zin 1310 (by decide +kernel) rfl)⟩
theorem clv_L_48 : CLV RL 48 mX10_fan 2 := ⟨⟨(zin 698 (by decide +kernel) rfl), (zin 49 (by decide +kernel) rfl), (zin 701 (by decide +kernel) rfl), by decide +kernel, rfl, rfl⟩, (zin 699 (by decide +kernel) rfl), (zin 700 (by decide +kernel) rfl)⟩
theorem clv_L_51 : CLV RL 51 mX11_fan 2 := ⟨⟨(zin 1344 (by decide +kernel) rfl), (zin 61 (by decide +kernel) rfl), (zin 1347 (by decide +kernel) rfl), by decide +kernel, rfl, rfl⟩, (zin 1345 (by decide +kernel) rfl), (zin 1346 (by decide +kernel) rfl)⟩
theorem clv_L_52 : CLV RL 52 mX10_ash 2 := ⟨⟨(zin 705 (by decide +kernel) rfl), (zin 49 (by decide +kernel) rfl), (zin 708 (by decide +kernel) rfl), by decide +kernel, rfl, rfl⟩, (zin 706 (by decide +kernel) rfl), (zin 707 (by decide +kernel) rfl)⟩
theorem clv_L_55 : CLV RL 55 mX11_ash 2 := ⟨⟨(zin 1353 (by decide +kernel) rfl), (zin 61 (by decide +kernel) rfl), (zin 1356 (by decide +kernel) rfl), by decide +kernel, rfl, rfl⟩, (zin 1354 (by decide +kernel) rfl), (zin 1355 (by decide +kernel) rfl)⟩
theorem clv_L_56 : CLV RL 56 mX10_stoke 3 := ⟨⟨(zin 709 (by decide +kernel) rfl), (zin 49 (by decide +kernel) rfl), (zin 712 (by decide +kernel) rfl), by decide +kernel, rfl, rfl⟩, (zin 710 (by decide +kernel) rfl), (zin 711 (by decide +kernel) rfl)⟩
theorem clv_L_60 : CLV RL 60 mX11_stoke 3 := ⟨⟨(zin 1357 (by decide +kernel) rfl), (zin 61 (by decide +kernel) rfl), (zin 1360 (by decide +kernel) rfl), by decide +kernel, rfl, rfl⟩, (zin 1358 (by decide +kernel) rfl), (zin 1359 (by decide +kernel) rfl)⟩
theorem clv_L_61 : CLV RL 61 mX10_add 2 := ⟨⟨(zin 715 (by decide +kernel) rfl), (zin 49 (by decide +kernel) rfl), (zin 718 (by decide +kernel) rfl), by decide +kernel, rfl, rfl⟩, (zin 716 (by decide +kernel) rfl), (zin 717 (by decide +kernel) rfl)⟩
theorem clv_L_64 : CLV RL 64 mX11_add 2 := ⟨⟨(zin 1365 (by decide +kernel) rfl), (zin 61 (by decide +kernel) rfl), (zin 1368 (by decide +kernel) rfl), by decide +kernel, rfl, rfl⟩, (zin 1366 (by decide +kernel) rfl), (zin 1367 (by decide +kernel) rfl)⟩
theorem clv_L_65 : CLV RL 65 mX10_dig 2 := ⟨⟨(zin 723 (by decide +kernel) rfl), (zin 49 (by decide +kernel) rfl), (zin 726 (by decide +kernel) rfl), by decide +kernel, rfl, rfl⟩, (zin 724 (by decide +kernel) rfl), (zin 725 (by decide +kernel) rfl)⟩
theorem clv_L_68 : CLV RL 68 mX11_dig 2 := ⟨⟨(zin 1369 (by decide +kernel) rfl), (zin 61 (by decide +kernel) rfl), (zin 1372 (by decide +kernel) rfl), by decide +kernel, rfl, rfl⟩, (zin 1370 (by decide +kernel) rfl), (zin 1371 (by decide +kernel) rfl)⟩
theorem clv_L_69 : CLV RL 69 mX10_turn 1 := ⟨⟨(zin 728 (by decide +kernel) rfl), (zin 49 (by decide +kernel) rfl), (zin 731 (by decide +kernel) rfl), by decide +kernel, rfl, rfl⟩, (zin 729 (by decide +kernel) rfl), (zin 730 (by decide +kernel) rfl)⟩
theorem clv_L_72 : CLV RL 72 mX11_turn 1 := ⟨⟨(zin 1373 (by decide +kernel) rfl), (zin 61 (by decide +kernel) rfl), (zin 1376 (by decide +kernel) rfl), by decide +kernel, rfl, rfl⟩, (zin 1374 (by decide +kernel) rfl), (zin 1375 (by decide +kernel) rfl)⟩
theorem clv_L_73 : CLV RL 73 mX10_wrap 2 := ⟨⟨(zin 736 (by decide +kernel) rfl), (zin 49 (by decide +kernel) rfl), (zin 739 (by decide +kernel) rfl), by decide +kernel, rfl, rfl⟩, (zin 737 (by decide +kernel) rfl), (zin 738 (by decide +kernel) rfl)⟩
theorem clv_L_76 : CLV RL 76 mX11_wrap 2 := ⟨⟨(zin 1377 (by decide +kernel) rfl), (zin 61 (by decide +kernel) rfl), (zin 1380 (by decide +kernel) rfl), by decide +kernel, rfl, rfl⟩, (zin 1378 (by decide +kernel) rfl), (zin 1379 (by decide +kernel) rfl)⟩
theorem clv_L_77 : CLV RL 77 mX10_memo 2 := ⟨⟨(zin 740 (by decide +kernel) rfl), (zin 49 (by decide +kernel) rfl), (zin 743 (by decide +kernel) rfl), by decide +kernel, rfl, rfl⟩, (zin 741 (by decide +kernel) rfl), (zin 742 (by decide +kernel) rfl)⟩
theorem clv_L_80 : CLV RL 80 mX11_memo 2 := ⟨⟨(zin 1381 (by decide +kernel) rfl), (zin 61 (by decide +kernel) rfl), (zin 1384 (by decide +kernel) rfl), by decide +kernel, rfl, rfl⟩, (zin 1382 (by decide +kernel) rfl), (zin 1383 (by decide +kernel) rfl)⟩
theorem clv_L_81 : CLV RL 81 mX10_rake 2 := ⟨⟨(zin 744 (by decide +kernel) rfl), (zin 49 (by decide +kernel) rfl), (zin 747 (by decide +kernel) rfl), by decide +kernel, rfl, rfl⟩, (zin 745 (by decide +kernel) rfl), (zin 746 (by decide +kernel) rfl)⟩
theorem clv_L_85 : CLV RL 85 mX11_rake 2 := ⟨⟨(zin 1385 (by decide +kernel) rfl), (zin 61 (by decide +kernel) rfl), (zin 1388 (by decide +kernel) rfl), by decide +kernel, rfl, rfl⟩, (zin 1386 (by decide +kernel) rfl), (zin 1387 (by decide +kernel) rfl)⟩
theorem clv_L_86 : CLV RL 86 mX10_go 1 := ⟨⟨(zin 748 (by decide +kernel) rfl), (zin 49 (by decide +kernel) rfl), (zin 751 (by decide +kernel) rfl), by decide +kernel, rfl, rfl⟩, (zin 749 (by decide +kernel) rfl), (zin 750 (by decide +kernel) rfl)⟩
theorem clv_L_89 : CLV RL 89 mX11_go 1 := ⟨⟨(zin 1389 (by decide +kernel) rfl), (zin 61 (by decide +kernel) rfl), (zin 1392 (by decide +kernel) rfl), by decide +kernel, rfl, rfl⟩, (zin 1390 (by decide +kernel) rfl), (zin 1391 (by decide +kernel) rfl)⟩
theorem clv_L_90 : CLV RL 90 mX10_ahead 3 := ⟨⟨(zin 811 (by decide +kernel) rfl), (zin 49 (by decide +kernel) rfl), (zin 814 (by decide +kernel) rfl), by decide +kernel, rfl, rfl⟩, (zin 812 (by decide +kernel) rfl), (zin 813 (by decide +kernel) rfl)⟩
theorem clv_L_93 : CLV RL 93 mX11_ahead 3 := ⟨⟨(zin 1429 (by decide +kernel) rfl), (zin 61 (by decide +kernel) rfl), (zin 1432 (by decide +kernel) rfl), by decide +kernel, rfl, rfl⟩, (zin 1430 (by decide +kernel) rfl), (zin 1431 (by decide +kernel) rfl)⟩
theorem clv_L_94 : CLV RL 94 mX10_later 2 := ⟨⟨(zin 815 (by decide +kernel) rfl), (zin 49 (by decide +kernel) rfl), (zin 818 (by decide +kernel) rfl), by decide +kernel, rfl, rfl⟩, (zin 816 (by decide +kernel) rfl), (zin 817 (by decide +kernel) rfl)⟩
theorem clv_L_97 : CLV RL 97 mX11_later 2 := ⟨⟨(zin 1433 (by decide +kernel) rfl), (zin 61 (by decide +kernel) rfl), (zin 1436 (by decide +kernel) rfl), by decide +kernel, rfl, rfl⟩, (zin 1434 (by decide +kernel) rfl), (zin 1435 (by decide +kernel) rfl)⟩
theorem clv_L_98 : CLV RL 98 mX10_when 2 := ⟨⟨(zin 819 (by decide +kernel) rfl), (zin 49 (by decide +kernel) rfl), (zin 822 (by decide +kernel) rfl), by decide +kernel, rfl, rfl⟩, (zin 820 (by decide +kernel) rfl), (zin 821 (by decide +kernel) rfl)⟩
theorem clv_L_101 : CLV RL 101 mX11_when 2 := ⟨⟨(zin 1437 (by decide +kernel) rfl), (zin 61 (by decide +kernel) rfl), (zin 1440 (by decide +kernel) rfl), by decide +kernel, rfl, rfl⟩, (zin 1438 (by decide +kernel) rfl), (zin 1439 (by decide +kernel) rfl)⟩
theorem clv_L_102 : CLV RL 102 mX10_places 2 := ⟨⟨(zin 827 (by decide +kernel) rfl), (zin 49 (by decide +kernel) rfl), (zin 830 (by decide +kernel) rfl), by decide +kernel, rfl, rfl⟩, (zin 828 (by decide +kernel) rfl), (zin 829 (by decide +kernel) rfl)⟩
theorem clv_L_105 : CLV RL 105 mX11_places 2 := ⟨⟨(zin 1441 (by decide +kernel) rfl), (zin 61 (by decide +kernel) rfl), (zin 1444 (by decide +kernel) rfl), by decide +kernel, rfl, rfl⟩, (zin 1442 (by decide +kernel) rfl), (zin 1443 (by decide +kernel) rfl)⟩
theorem clv_L_106 : CLV RL 106 mX10_flip 2 := ⟨⟨(zin 906 (by decide +kernel) rfl), (zin 49 (by decide +kernel) rfl), (zin 909 (by decide +kernel) rfl), by decide +kernel, rfl, rfl⟩, (zin 907 (by decide +kernel) rfl), (zin 908 (by decide +kernel) rfl)⟩
theorem clv_L_109 : CLV RL 109 mX11_flip 2 := ⟨⟨(zin 1461 (by decide +kernel) rfl), (zin 61 (by decide +kernel) rfl), (zin 1464 (by decide +kernel) rfl), by decide +kernel, rfl, rfl⟩, (zin 1462 (by decide +kernel) rfl), (zin 1463 (by decide +kernel) rfl)⟩
theorem clv_L_110 : CLV RL 110 mX10_least 2 := ⟨⟨(zin 914 (by decide +kernel) rfl), (zin 49 (by decide +kernel) rfl), (zin 917 (by decide +kernel) rfl), by decide +kernel, rfl, rfl⟩, (zin 915 (by decide +kernel) rfl), (zin 916 (by decide +kernel) rfl)⟩
theorem clv_L_113 : CLV RL 113 mX11_least 2 := ⟨⟨(zin 1465 (by decide +kernel) rfl), (zin 61 (by decide +kernel) rfl), (zin 1468 (by decide +kernel) rfl), by decide +kernel, rfl, rfl⟩, (zin 1466 (by decide +kernel) rfl), (zin 1467 (by decide +kernel) rfl)⟩
theorem clv_L_114 : CLV RL 114 mX10_best 1 := ⟨⟨(zin 924 (by decide +kernel) rfl), (zin 49 (by decide +kernel) rfl), (zin 927 (by decide +kernel) rfl), by decide +kernel, rfl, rfl⟩, (zin 925 (by decide +kernel) rfl), (zin 926 (by decide +kernel) rfl)⟩
theorem clv_L_117 : CLV RL 117 mX11_best 1 := ⟨⟨(zin 1469 (by decide +kernel) rfl), (zin 61 (by decide +kernel) rfl), (zin 1472 (by decide +kernel) rfl), by decide +kernel, rfl, rfl⟩, (zin 1470 (by decide +kernel) rfl), (zin 1471 (by decide +kernel) rfl)⟩
theorem clv_L_118 : CLV RL 118 mX10_feel 3 := ⟨⟨(zin 928 (by decide +kernel) rfl), (zin 49 (by decide +kernel) rfl), (zin 931 (by decide +kernel) rfl), by decide +kernel, rfl, rfl⟩, (zin 929 (by decide +kernel) rfl), (zin 930 (by decide +kernel) rfl)⟩
theorem clv_L_121 : CLV RL 121 mX11_feel 3 := ⟨⟨(zin 1473 (by decide +kernel) rfl), (zin 61 (by decide +kernel) rfl), (zin 1476 (by decide +kernel) rfl), by decide +kernel, rfl, rfl⟩, (zin 1474 (by decide +kernel) rfl), (zin 1475 (by decide +kernel) rfl)⟩
theorem clv_L_122 : CLV RL 122 mX10_forget 1 := ⟨⟨(zin 936 (by decide +kernel) rfl), (zin 49 (by decide +kernel) rfl), (zin 939 (by decide +kernel) rfl), by decide +kernel, rfl, rfl⟩, (zin 937 (by decide +kernel) rfl), (zin 938 (by decide +kernel) rfl)⟩
theorem clv_L_125 : CLV RL 125 mX11_forget 1 := ⟨⟨(zin 1477 (by decide +kernel) rfl), (zin 61 (by decide +kernel) rfl), (zin 1480 (by decide +kernel) rfl), by decide +kernel, rfl, rfl⟩, (zin 1478 (by decide +kernel) rfl), (zin 1479 (by decide +kernel) rfl)⟩
theorem clv_L_126 : CLV RL 126 mX10_fits 1 := ⟨⟨(zin 940 (by decide +kernel) rfl), (zin 49 (by decide +kernel) rfl), (zin 943 (by decide +kernel) rfl), by decide +kernel, rfl, rfl⟩, (zin 941 (by decide +kernel) rfl), (zin 942 (by decide +kernel) rfl)⟩
theorem clv_L_129 : CLV RL 129 mX11_fits 1 := ⟨⟨(zin 1481 (by decide +kernel) rfl), (zin 61 (by decide +kernel) rfl), (zin 1484 (by decide +kernel) rfl), by decide +kernel, rfl, rfl⟩, (zin 1482 (by decide +kernel) rfl), (zin 1483 (by decide +kernel) rfl)⟩
theorem clv_L_130 : CLV RL 130 mX10_lies 3 := ⟨⟨(zin 961 (by decide +kernel) rfl), (zin 49 (by decide +kernel) rfl), (zin 964 (by decide +kernel) rfl), by decide +kernel, rfl, rfl⟩, (zin 962 (by decide +kernel) rfl), (zin 963 (by decide +kernel) rfl)⟩
theorem clv_L_134 : CLV RL 134 mX11_lies 3 := ⟨⟨(zin 1489 (by decide +kernel) rfl), (zin 61 (by decide +kernel) rfl), (zin 1492 (by decide +kernel) rfl), by decide +kernel, rfl, rfl⟩, (zin 1490 (by decide +kernel) rfl), (zin 1491 (by decide +kernel) rfl)⟩
theorem clv_L_135 : CLV RL 135 mX10_next 1 := ⟨⟨(zin 987 (by decide +kernel) rfl), (zin 49 (by decide +kernel) rfl), (zin 990 (by decide +kernel) rfl), by decide +kernel, rfl, rfl⟩, (zin 988 (by decide +kernel) rfl), (zin 989 (by decide +kernel) rfl)⟩
theorem clv_L_139 : CLV RL 139 mX11_next_ 1 := ⟨⟨(zin 1510 (by decide +kernel) rfl), (zin 61 (by decide +kernel) rfl), (zin 1513 (by decide +kernel) rfl), by decide +kernel, rfl, rfl⟩, (zin 1511 (by decide +kernel) rfl), (zin 1512 (by decide +kernel) rfl)⟩
theorem clv_L_140 : CLV RL 140 mX10_takes 1 := ⟨⟨(zin 1001 (by decide +kernel) rfl), (zin 49 (by decide +kernel) rfl), (zin 1004 (by decide +kernel) rfl), by decide +kernel, rfl, rfl⟩, (zin 1002 (by decide +kernel) rfl), (zin 1003 (by decide +kernel) rfl)⟩
theorem clv_L_143 : CLV RL 143 mX11_takes 1 := ⟨⟨(zin 1515 (by decide +kernel) rfl), (zin 61 (by decide +kernel) rfl), (zin 1518 (by decide +kernel) rfl), by decide +kernel, rfl, rfl⟩, (zin 1516 (by decide +kernel) rfl), (zin 1517 (by decide +kernel) rfl)⟩
theorem clv_L_144 : CLV RL 144 mX10_morning 1 := ⟨⟨(zin 1013 (by decide +kernel) rfl), (zin 49 (by decide +kernel) rfl), (zin 1016 (by decide +kernel) rfl), by decide +kernel, rfl, rfl⟩, (zin 1014 (by decide +kernel) rfl), (zin 1015 (by decide +kernel) rfl)⟩
theorem clv_L_147 : CLV RL 147 mX11_morning 1 := ⟨⟨(zin 1523 (by decide +kernel) rfl), (zin 61 (by decide +kernel) rfl), (zin 1526 (by decide +kernel) rfl), by decide +kernel, rfl, rfl⟩, (zin 1524 (by decide +kernel) rfl), (zin 1525 (by decide +kernel) rfl)⟩
theorem clv_L_148 : CLV RL 148 mX10_drift 3 := ⟨⟨(zin 1018 (by decide +kernel) rfl), (zin 49 (by decide +kernel) rfl), (zin 1021 (by decide +kernel) rfl), by decide +kernel, rfl, rfl⟩, (zin 1019 (by decide +kernel) rfl), (zin 1020 (by decide +kernel) rfl)⟩
theorem clv_L_151 : CLV RL 151 mX11_drift 3 := ⟨⟨(zin 1529 (by decide +kernel) rfl), (zin 61 (by decide +kernel) rfl), (zin 1532 (by decide +kernel) rfl), by decide +kernel, rfl, rfl⟩, (zin 1530 (by decide +kernel) rfl), (zin 1531 (by decide +kernel) rfl)⟩
theorem clv_L_152 : CLV RL 152 mX10_keep 1 := ⟨⟨(zin 1035 (by decide +kernel) rfl), (zin 49 (by decide +kernel) rfl), (zin 1038 (by decide +kernel) rfl), by decide +kernel, rfl, rfl⟩, (zin 1036 (by decide +kernel) rfl), (zin 1037 (by decide +kernel) rfl)⟩
theorem clv_L_155 : CLV RL 155 mX11_keep 1 := ⟨⟨(zin 1538 (by decide +kernel) rfl), (zin 61 (by decide +kernel) rfl), (zin 1541 (by decide +kernel) rfl), by decide +kernel, rfl, rfl⟩, (zin 1539 (by decide +kernel) rfl), (zin 1540 (by decide +kernel) rfl)⟩
theorem clv_L_156 : CLV RL 156 mX10_back 1 := ⟨⟨(zin 1039 (by decide +kernel) rfl), (zin 49 (by decide +kernel) rfl), (zin 1042 (by decide +kernel) rfl), by decide +kernel, rfl, rfl⟩, (zin 1040 (by decide +kernel) rfl), (zin 1041 (by decide +kernel) rfl)⟩
theorem clv_L_159 : CLV RL 159 mX11_back 1 := ⟨⟨(zin 1546 (by decide +kernel) rfl), (zin 61 (by decide +kernel) rfl), (zin 1549 (by decide +kernel) rfl), by decide +kernel, rfl, rfl⟩, (zin 1547 (by decide +kernel) rfl), (zin 1548 (by decide +kernel) rfl)⟩
theorem clv_L_160 : CLV RL 160 mX10_sheet 3 := ⟨⟨(zin 1043 (by decide +kernel) rfl), (zin 49 (by decide +kernel) rfl), (zin 1046 (by decide +kernel) rfl), by decide +kernel, rfl, rfl⟩, (zin 1044 (by decide +kernel) rfl), (zin 1045 (by decide +kernel) rfl)⟩
theorem clv_L_163 : CLV RL 163 mX11_sheet 3 := ⟨⟨(zin 1550 (by decide +kernel) rfl), (zin 61 (by decide +kernel) rfl), (zin 1553 (by decide +kernel) rfl), by decide +kernel, rfl, rfl⟩, (zin 1551 (by decide +kernel) rfl), (zin 1552 (by decide +kernel) rfl)⟩
theorem clv_L_164 : CLV RL 164 mX10_lay 3 := ⟨⟨(zin 1058 (by decide +kernel) rfl), (zin 49 (by decide +kernel) rfl), (zin 1061 (by decide +kernel) rfl), by decide +kernel, rfl, rfl⟩, (zin 1059 (by decide +kernel) rfl), (zin 1060 (by decide +kernel) rfl)⟩
theorem clv_L_167 : CLV RL 167 mX11_lay 3 := ⟨⟨(zin 1557 (by decide +kernel) rfl), (zin 61 (by decide +kernel) rfl), (zin 1560 (by decide +kernel) rfl), by decide +kernel, rfl, rfl⟩, (zin 1558 (by decide +kernel) rfl), (zin 1559 (by decide +kernel) rfl)⟩
theorem clv_L_168 : CLV RL 168 mX10_read 4 := ⟨⟨(zin 1071 (by decide +kernel) rfl), (zin 49 (by decide +kernel) rfl), (zin 1074 (by decide +kernel) rfl), by decide +kernel, rfl, rfl⟩, (zin 1072 (by decide +kernel) rfl), (zin 1073 (by decide +kernel) rfl)⟩
theorem clv_L_172 : CLV RL 172 mX11_read 4 := ⟨⟨(zin 1561 (by decide +kernel) rfl), (zin 61 (by decide +kernel) rfl), (zin 1564 (by decide +kernel) rfl), by decide +kernel, rfl, rfl⟩, (zin 1562 (by decide +kernel) rfl), (zin 1563 (by decide +kernel) rfl)⟩
theorem clv_L_173 : CLV RL 173 mX10_torn 0 := ⟨⟨(zin 1087 (by decide +kernel) rfl), (zin 49 (by decide +kernel) rfl), (zin 1090 (by decide +kernel) rfl), by decide +kernel, rfl, rfl⟩, (zin 1088 (by decide +kernel) rfl), (zin 1089 (by decide +kernel) rfl)⟩
theorem clv_L_176 : CLV RL 176 mX11_torn 0 := ⟨⟨(zin 1567 (by decide +kernel) rfl), (zin 61 (by decide +kernel) rfl), (zin 1570 (by decide +kernel) rfl), by decide +kernel, rfl, rfl⟩, (zin 1568 (by decide +kernel) rfl), (zin 1569 (by decide +kernel) rfl)⟩
theorem clv_L_177 : CLV RL 177 mX10_count 1 := ⟨⟨(zin 1091 (by decide +kernel) rfl), (zin 49 (by decide +kernel) rfl), (zin 1094 (by decide +kernel) rfl), by decide +kernel, rfl, rfl⟩, (zin 1092 (by decide +kernel) rfl), (zin 1093 (by decide +kernel) rfl)⟩
theorem clv_L_180 : CLV RL 180 mX11_count 1 := ⟨⟨(zin 1571 (by decide +kernel) rfl), (zin 61 (by decide +kernel) rfl), (zin 1574 (by decide +kernel) rfl), by decide +kernel, rfl, rfl⟩, (zin 1572 (by decide +kernel) rfl), (zin 1573 (by decide +kernel) rfl)⟩
