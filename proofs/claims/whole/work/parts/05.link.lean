/-! THE TABLES against the machine's words: every resolved instruction is what the class file has at its place. -/
def z_owners : List String := ["OtherHands$Asked", "OtherHands$Coin", "OtherHands$Days", "OtherHands$Plan", "OtherHands$Rule", "OtherHands$RuleReader", "OtherHands$State", "OtherHands$Text", "OtherHands$TownReader", "OtherHands$Ways", "OtherHands", "OtherHandsModel", "java/lang/Integer", "java/lang/String", "java/lang/StringLatin1", "java/util/Arrays", "jdk/internal/util/Preconditions", "OtherHandsLaw"]
def z_on : List Nat := [0, 0, 0, 0, 0, 0, 0, 0, 1, 1, 1, 1, 1, 2, 2, 2, 2, 2, 3, 3, 3, 4, 4, 5, 5, 5, 5, 5, 5, 5, 5, 5, 5, 5, 6, 6, 6, 6, 6, 6, 6, 6, 6, 6, 6, 6, 7, 7, 7, 7, 7, 7, 7, 7, 7, 7, 8, 8, 8, 8, 8, 8, 9, 9, 9, 9, 9, 9, 9, 9, 10, 10, 10, 10, 10, 10, 10, 10, 10, 10, 10, 10, 10, 10, 10, 10, 10, 10, 10, 10, 10, 10, 10, 10, 10, 10, 10, 10, 10, 10, 10, 10, 10, 10, 10, 10, 10, 10, 10, 11, 11, 11, 11, 11, 11, 11, 11, 11, 11, 11, 11, 11, 11, 11, 11, 11, 11, 11, 11, 11, 11, 11, 11, 11, 11, 11, 11, 11, 11, 11, 11, 11, 11, 11, 11, 11, 11, 11, 11, 11, 11, 11, 11, 11, 11, 11, 11, 11, 11, 11, 11, 11, 11, 11, 11, 11, 11, 11, 11, 11, 11, 11, 11, 11, 11, 11, 11, 11, 11, 11, 11, 11, 11, 11, 11, 11, 11, 11, 11, 11, 11, 11, 11, 11, 11, 11, 11, 11, 11, 11, 11, 11, 11, 11, 11, 12, 13, 13, 13, 13, 13, 14, 15, 15, 16, 17]
def z_codes : List ByteArray := [cX0_init, cX0_aboutPaying, cX0_aboutHome, cX0_tellCoin, cX0_tellPeople, cX0_tellHands, cX0_holds, cX0_joined, cX1_init, cX1_begin, cX1_copyFrom, cX1_stampAnew, cX1_goTo, cX2_init, cX2_goBy, cX2_passDay, cX2_holdMeeting, cX2_handOver, cX3_init, cX3_addCoin, cX3_addMeeting, cX4_init, cX4_some, cX5_init, cX5_read, cX5_readTest, cX5_readFact, cX5_readSum, cX5_readValue, cX5_takePart, cX5_compareSign, cX5_factorSign, cX5_termSign, cX5_emit, cX6_init, cX6_begin, cX6_copyFrom, cX6_isVoid, cX6_voids, cX6_held, cX6_purse, cX6_goodWorth, cX6_metToday, cX6_toldCoins, cX6_bringHome, cX6_draw, cX7_init, cX7_add, cX7_begin, cX7_next, cX7_isEnd, cX7_isNumber, cX7_isSign, cX7_isWord, cX7_whichWord, cX7_fail, cX8_init, cX8_read, cX8_readClause, cX8_readCoin, cX8_readMeeting, cX8_readNumber, cX9_init, cX9_lay, cX9_isGood, cX9_step, cX9_mayComeHome, cX9_isLost, cX9_firstDay, cX9_fewestPays, cX10_init, cX10_feed, cX10_end, cX10_town, cX10_rule, cX10_force, cX10_coin, cX10_meeting, cX10_person, cX10_pay, cX10_home, cX10_rest, cX10_run, cX10_ahead, cX10_soonest, cX10_fewest, cX10_lost, cX10_strangers, cX10_dear, cX10_rings, cX10_never, cX10_came, cX10_met, cX10_seed, cX10_years, cX10_count, cX10_image, cX10_back, cX10_has, cX10_hasTown, cX10_hasPerson, cX10_hasCoin, cX10_hasMeeting, cX10_ruleAt, cX10_barred, cX10_layWays, cX10_touchesAll, cX10_rounds, cX10_strikeOut, cX11_init, cX11_in, cX11_isOf, cX11_bits, cX11_four, cX11_feed, cX11_end, cX11_fails, cX11_see, cX11_isDigit, cX11_isLetter, cX11_isWord, cX11_passWord, cX11_numberHere, cX11_wordHere, cX11_puts, cX11_makes, cX11_opens, cX11_strength, cX11_settles, cX11_value, cX11_term, cX11_sum, cX11_compare, cX11_fact, cX11_isInside, cX11_closes, cX11_tested, cX11_isTestHere, cX11_arePeopleHere, cX11_isYearHere, cX11_isCoinHere, cX11_isMeetHere, cX11_townLineHere, cX11_ruleSort, cX11_clauseHere, cX11_readsAll, cX11_rule, cX11_town, cX11_isRule, cX11_push, cX11_pop, cX11_one, cX11_reckons, cX11_isPerson, cX11_isCoin, cX11_coinOf, cX11_meetOf, cX11_isVoid, cX11_voidOnes, cX11_purseOf, cX11_metBy, cX11_force, cX11_coin, cX11_meeting, cX11_person, cX11_words, cX11_isSo, cX11_isBarred, cX11_wordsToPay, cX11_wordsForHome, cX11_brokenToPay, cX11_brokenForHome, cX11_pays, cX11_brings, cX11_pay, cX11_home, cX11_rest, cX11_give, cX11_passes, cX11_run, cX11_keeps, cX11_putsBack, cX11_ahead, cX11_orders, cX11_goes, cX11_searches, cX11_searchesFor, cX11_soonest, cX11_fewest, cX11_lostOnes, cX11_lost, cX11_strangers, cX11_worthOf, cX11_dear, cX11_rings, cX11_isAhead, cX11_never, cX11_came, cX11_isTold, cX11_met, cX11_seed, cX11_years, cX11_count, cX11_image, cX11_back, cJ6_bitCount_0f7a4, cJ0_length_8abf5, cJ0_charAt_5068e, cJ0_coder_7d493, cJ0_isLatin1_aae02, cJ0_checkIndex_df160, cJ1_charAt_3b067, cJ7_fill_53178, cJ7_copyOf_59c91, cJ3_checkIndex_8e157, cL_law]
def z_ys : List MethodName := [yX0_init, yX0_aboutPaying, yX0_aboutHome, yX0_tellCoin, yX0_tellPeople, yX0_tellHands, yX0_holds, yX0_joined, yX1_init, yX1_begin, yX1_copyFrom, yX1_stampAnew, yX1_goTo, yX2_init, yX2_goBy, yX2_passDay, yX2_holdMeeting, yX2_handOver, yX3_init, yX3_addCoin, yX3_addMeeting, yX4_init, yX4_some, yX5_init, yX5_read, yX5_readTest, yX5_readFact, yX5_readSum, yX5_readValue, yX5_takePart, yX5_compareSign, yX5_factorSign, yX5_termSign, yX5_emit, yX6_init, yX6_begin, yX6_copyFrom, yX6_isVoid, yX6_voids, yX6_held, yX6_purse, yX6_goodWorth, yX6_metToday, yX6_toldCoins, yX6_bringHome, yX6_draw, yX7_init, yX7_add, yX7_begin, yX7_next, yX7_isEnd, yX7_isNumber, yX7_isSign, yX7_isWord, yX7_whichWord, yX7_fail, yX8_init, yX8_read, yX8_readClause, yX8_readCoin, yX8_readMeeting, yX8_readNumber, yX9_init, yX9_lay, yX9_isGood, yX9_step, yX9_mayComeHome, yX9_isLost, yX9_firstDay, yX9_fewestPays, yX10_init, yX10_feed, yX10_end, yX10_town, yX10_rule, yX10_force, yX10_coin, yX10_meeting, yX10_person, yX10_pay, yX10_home, yX10_rest, yX10_run, yX10_ahead, yX10_soonest, yX10_fewest, yX10_lost, yX10_strangers, yX10_dear, yX10_rings, yX10_never, yX10_came, yX10_met, yX10_seed, yX10_years, yX10_count, yX10_image, yX10_back, yX10_has, yX10_hasTown, yX10_hasPerson, yX10_hasCoin, yX10_hasMeeting, yX10_ruleAt, yX10_barred, yX10_layWays, yX10_touchesAll, yX10_rounds, yX10_strikeOut, yX11_init, yX11_in, yX11_isOf, yX11_bits, yX11_four, yX11_feed, yX11_end, yX11_fails, yX11_see, yX11_isDigit, yX11_isLetter, yX11_isWord, yX11_passWord, yX11_numberHere, yX11_wordHere, yX11_puts, yX11_makes, yX11_opens, yX11_strength, yX11_settles, yX11_value, yX11_term, yX11_sum, yX11_compare, yX11_fact, yX11_isInside, yX11_closes, yX11_tested, yX11_isTestHere, yX11_arePeopleHere, yX11_isYearHere, yX11_isCoinHere, yX11_isMeetHere, yX11_townLineHere, yX11_ruleSort, yX11_clauseHere, yX11_readsAll, yX11_rule, yX11_town, yX11_isRule, yX11_push, yX11_pop, yX11_one, yX11_reckons, yX11_isPerson, yX11_isCoin, yX11_coinOf, yX11_meetOf, yX11_isVoid, yX11_voidOnes, yX11_purseOf, yX11_metBy, yX11_force, yX11_coin, yX11_meeting, yX11_person, yX11_words, yX11_isSo, yX11_isBarred, yX11_wordsToPay, yX11_wordsForHome, yX11_brokenToPay, yX11_brokenForHome, yX11_pays, yX11_brings, yX11_pay, yX11_home, yX11_rest, yX11_give, yX11_passes, yX11_run, yX11_keeps, yX11_putsBack, yX11_ahead, yX11_orders, yX11_goes, yX11_searches, yX11_searchesFor, yX11_soonest, yX11_fewest, yX11_lostOnes, yX11_lost, yX11_strangers, yX11_worthOf, yX11_dear, yX11_rings, yX11_isAhead, yX11_never, yX11_came, yX11_isTold, yX11_met, yX11_seed, yX11_years, yX11_count, yX11_image, yX11_back, yJ6_bitCount_0f7a4, yJ0_length_8abf5, yJ0_charAt_5068e, yJ0_coder_7d493, yJ0_isLatin1_aae02, yJ0_checkIndex_df160, yJ1_charAt_3b067, yJ7_fill_53178, yJ7_copyOf_59c91, yJ3_checkIndex_8e157, yL_law]
def z_rets : List (Option FieldType) := [none, none, none, none, none, none, some .boolean, some .long, none, none, none, none, none, none, some .int, none, none, none, none, none, none, none, some .boolean, none, some (.object "OtherHands$Rule"), none, none, none, none, none, some .int, some .int, some .int, none, none, none, none, some .boolean, some .int, some .int, some .int, some .int, some .int, some .int, none, some .int, none, none, none, none, some .boolean, some .boolean, some .boolean, some .boolean, some .int, none, none, some (.object "OtherHands$Plan"), none, none, none, some .int, none, none, some .boolean, some .int, some .boolean, some .boolean, some .int, some .int, none, some .int, some .int, some .int, some .int, some .int, some .int, some .int, some .int, some .int, some .int, some .int, some .int, some .int, some .int, some .int, some .int, some .int, some .int, some .int, some .int, some .boolean, some .int, some .int, some .int, some .int, some .int, some .int, some .boolean, some .boolean, some .boolean, some .boolean, some .boolean, some (.object "OtherHands$Rule"), some .boolean, none, some .boolean, some .int, none, none, some .boolean, some .boolean, some .int, none, some .int, some .int, some .boolean, some .int, some .boolean, some .boolean, some .boolean, none, some .boolean, some .int, none, some .boolean, some .boolean, some .int, none, some .boolean, some .boolean, some .boolean, some .boolean, some .boolean, some .boolean, none, some .boolean, some .boolean, some .boolean, some .boolean, some .boolean, some .boolean, some .boolean, some .int, some .boolean, some .boolean, some .int, some .int, some .boolean, none, some .long, some .long, some .long, some .boolean, some .boolean, some .int, some .int, some .boolean, some .int, some .int, some .int, some .int, some .int, some .int, some .int, none, some .boolean, some .boolean, none, none, some .int, some .int, none, none, some .int, some .int, some .int, none, none, some .int, none, none, some .int, none, none, none, none, some .int, some .int, some .int, some .int, some .int, some .int, some .int, some .int, some .boolean, some .int, some .boolean, some .boolean, some .int, some .int, some .int, some .int, some .int, some .int, some .int, some .int, some .char, some .byte, some .boolean, none, some .char, none, some (.array .int), some .int, some .boolean]
def z_fl : List (Nat × Nat × Nat × Nat) := [(0, 7, 0, 0), (0, 13, 0, 1), (0, 16, 6, 5), (0, 22, 6, 1), (0, 30, 1, 1), (0, 43, 1, 3), (0, 56, 1, 4), (0, 60, 1, 0), (0, 63, 1, 2), (1, 9, 1, 0), (1, 15, 1, 1), (1, 18, 1, 5), (1, 21, 1, 6), (1, 28, 1, 2), (1, 31, 1, 3), (1, 34, 1, 4), (2, 9, 2, 0), (2, 15, 2, 1), (2, 19, 6, 0), (2, 25, 3, 0), (2, 38, 3, 3), (2, 41, 3, 7), (2, 45, 6, 1), (2, 47, 3, 8), (2, 50, 3, 9), (2, 56, 3, 2), (2, 59, 6, 5), (2, 62, 1, 4), (3, 9, 3, 4), (3, 15, 3, 5), (3, 18, 3, 6), (3, 21, 3, 7), (3, 24, 3, 8), (3, 27, 3, 9), (3, 30, 3, 10), (3, 33, 3, 2), (3, 37, 3, 3), (4, 7, 4, 0), (4, 13, 4, 1), (4, 16, 4, 2), (5, 9, 5, 1), (5, 15, 5, 3), (5, 18, 5, 4), (5, 21, 5, 0), (5, 25, 5, 2), (5, 29, 5, 5), (5, 32, 5, 6), (5, 66, 7, 7), (5, 119, 7, 6), (6, 9, 6, 0), (6, 15, 6, 3), (6, 21, 6, 5), (6, 26, 6, 1), (6, 29, 6, 2), (6, 32, 3, 2), (6, 36, 3, 4), (6, 40, 3, 5), (6, 43, 3, 6), (6, 50, 6, 4), (6, 57, 1, 2), (6, 59, 3, 1), (6, 66, 1, 1), (6, 68, 1, 0), (6, 70, 3, 3), (6, 73, 3, 7), (6, 75, 3, 8), (6, 78, 3, 9), (6, 81, 1, 6), (6, 88, 1, 5), (7, 9, 7, 0), (7, 15, 7, 1), (7, 19, 7, 3), (7, 22, 7, 7), (7, 25, 7, 4), (7, 31, 7, 2), (7, 34, 7, 6), (7, 37, 7, 5), (8, 9, 8, 0), (8, 18, 3, 1), (8, 22, 8, 1), (8, 25, 8, 2), (8, 53, 7, 7), (8, 62, 3, 2), (8, 65, 3, 3), (8, 72, 3, 0), (8, 91, 7, 6), (9, 9, 9, 7), (9, 15, 9, 8), (9, 18, 9, 10), (9, 21, 9, 0), (9, 25, 9, 1), (9, 32, 9, 3), (9, 36, 9, 2), (9, 40, 9, 4), (9, 44, 9, 5), (9, 51, 1, 4), (9, 55, 1, 1), (9, 58, 1, 3), (9, 65, 9, 6), (9, 68, 6, 0), (9, 74, 3, 3), (9, 79, 3, 10), (9, 82, 3, 7), (9, 84, 3, 8), (9, 87, 3, 9), (9, 94, 1, 2), (9, 97, 3, 1), (9, 131, 9, 9), (10, 13, 10, 0), (10, 24, 10, 1), (10, 31, 10, 2), (10, 37, 10, 3), (10, 41, 10, 4), (10, 50, 10, 5), (10, 54, 10, 6), (10, 57, 10, 7), (10, 64, 10, 8), (10, 71, 10, 9), (10, 80, 10, 10), (10, 89, 10, 11), (10, 93, 10, 12), (10, 97, 10, 13), (10, 101, 10, 14), (10, 104, 7, 1), (10, 115, 7, 7), (10, 121, 3, 2), (10, 131, 6, 3), (10, 138, 6, 5), (10, 141, 1, 0), (10, 144, 1, 1), (10, 147, 1, 2), (10, 150, 1, 3), (10, 153, 1, 4), (10, 161, 1, 5), (10, 167, 6, 0), (10, 171, 3, 7), (10, 174, 3, 8), (10, 177, 3, 9), (10, 219, 6, 1), (10, 229, 6, 2), (10, 248, 9, 9), (10, 251, 3, 0), (10, 268, 3, 3), (10, 282, 1, 6), (10, 295, 6, 4), (10, 298, 3, 1), (11, 7, 11, 0), (11, 13, 11, 3), (11, 17, 11, 4), (11, 20, 11, 5), (11, 23, 11, 6), (11, 26, 11, 11), (11, 29, 11, 12), (11, 32, 11, 20), (11, 35, 11, 22), (11, 39, 11, 24), (11, 42, 11, 25), (11, 45, 11, 27), (11, 48, 11, 28), (11, 51, 11, 30), (11, 54, 11, 34), (11, 57, 11, 35), (11, 60, 11, 36), (11, 63, 11, 37), (11, 66, 11, 38), (11, 70, 11, 1), (11, 78, 11, 14), (11, 81, 11, 13), (11, 106, 11, 15), (11, 131, 11, 16), (11, 134, 11, 17), (11, 137, 11, 18), (11, 140, 11, 21), (11, 198, 11, 7), (11, 201, 11, 8), (11, 204, 11, 9), (11, 207, 11, 10), (11, 237, 11, 19), (11, 249, 11, 2), (11, 255, 11, 23), (11, 325, 11, 26), (11, 361, 11, 29), (11, 365, 11, 31), (11, 368, 11, 32), (11, 371, 11, 33)]
def z_mk : List (Nat × Nat × Nat × Nat) := [(0, 26, 3, 0), (0, 35, 40, 0), (0, 39, 4, 0), (0, 46, 98, 1), (0, 52, 5, 0), (0, 66, 205, 0), (0, 71, 7, 0), (1, 24, 11, 0), (1, 38, 98, 1), (2, 30, 45, 0), (2, 34, 15, 0), (2, 53, 16, 0), (2, 68, 37, 0), (2, 72, 2, 0), (2, 80, 22, 0), (2, 84, 44, 0), (2, 94, 39, 0), (2, 98, 17, 0), (2, 101, 98, 1), (2, 105, 1, 0), (2, 109, 12, 0), (4, 19, 6, 0), (5, 35, 48, 0), (5, 44, 54, 0), (5, 48, 55, 0), (5, 52, 49, 0), (5, 55, 25, 0), (5, 58, 52, 0), (5, 62, 50, 0), (5, 69, 213, 0), (5, 75, 21, 0), (5, 78, 26, 0), (5, 83, 53, 0), (5, 89, 33, 0), (5, 96, 27, 0), (5, 99, 30, 0), (5, 103, 29, 0), (5, 107, 28, 0), (5, 110, 31, 0), (5, 113, 32, 0), (5, 116, 51, 0), (6, 25, 8, 1), (6, 46, 9, 0), (6, 53, 10, 0), (6, 62, 37, 0), (6, 84, 11, 0), (7, 28, 49, 0), (7, 40, 206, 0), (7, 46, 207, 0), (8, 17, 18, 1), (8, 29, 48, 0), (8, 34, 58, 0), (8, 38, 52, 0), (8, 42, 49, 0), (8, 45, 50, 0), (8, 49, 55, 0), (8, 58, 54, 0), (8, 68, 61, 0), (8, 75, 59, 0), (8, 78, 60, 0), (8, 81, 19, 0), (8, 85, 20, 0), (8, 88, 51, 0), (9, 31, 8, 1), (9, 47, 64, 0), (9, 61, 66, 0), (9, 90, 65, 0), (9, 100, 98, 1), (9, 104, 3, 0), (9, 110, 40, 0), (9, 114, 4, 0), (9, 118, 5, 0), (9, 124, 22, 0), (9, 128, 68, 0), (9, 134, 212, 0), (10, 9, 18, 1), (10, 12, 46, 1), (10, 21, 56, 0), (10, 30, 23, 0), (10, 47, 34, 0), (10, 63, 8, 1), (10, 70, 0, 1), (10, 77, 13, 0), (10, 86, 62, 0), (10, 107, 47, 0), (10, 111, 57, 0), (10, 118, 35, 0), (10, 124, 24, 0), (10, 127, 103, 0), (10, 134, 101, 0), (10, 157, 37, 0), (10, 164, 102, 0), (10, 180, 100, 0), (10, 183, 39, 0), (10, 187, 41, 0), (10, 190, 42, 0), (10, 193, 98, 0), (10, 197, 1, 0), (10, 201, 104, 0), (10, 205, 12, 0), (10, 208, 2, 0), (10, 212, 44, 0), (10, 216, 99, 0), (10, 221, 14, 0), (10, 225, 36, 0), (10, 232, 38, 0), (10, 236, 105, 0), (10, 239, 68, 0), (10, 242, 69, 0), (10, 245, 67, 0), (10, 254, 205, 0), (10, 259, 106, 0), (10, 262, 212, 0), (10, 271, 107, 0), (10, 275, 9, 0), (10, 278, 63, 0), (10, 291, 108, 0), (10, 301, 43, 0), (10, 304, 22, 0), (11, 74, 113, 0), (11, 84, 117, 0), (11, 88, 119, 0), (11, 92, 120, 0), (11, 96, 121, 0), (11, 99, 118, 0), (11, 102, 116, 0), (11, 109, 110, 0), (11, 143, 127, 0), (11, 147, 124, 0), (11, 152, 122, 0), (11, 155, 125, 0), (11, 158, 123, 0), (11, 161, 129, 0), (11, 165, 130, 0), (11, 168, 131, 0), (11, 173, 126, 0), (11, 176, 132, 0), (11, 179, 128, 0), (11, 182, 134, 0), (11, 185, 133, 0), (11, 188, 135, 0), (11, 195, 136, 0), (11, 212, 138, 0), (11, 217, 139, 0), (11, 220, 140, 0), (11, 223, 141, 0), (11, 234, 143, 0), (11, 240, 142, 0), (11, 243, 137, 0), (11, 246, 144, 0), (11, 252, 145, 0), (11, 258, 149, 0), (11, 262, 150, 0), (11, 266, 151, 0), (11, 270, 155, 0), (11, 274, 157, 0), (11, 277, 156, 0), (11, 280, 148, 0), (11, 283, 154, 0), (11, 290, 153, 0), (11, 293, 159, 0), (11, 296, 160, 0), (11, 299, 112, 0), (11, 302, 152, 0), (11, 306, 166, 0), (11, 309, 111, 0), (11, 312, 165, 0), (11, 316, 168, 0), (11, 319, 167, 0), (11, 322, 169, 0), (11, 328, 170, 0), (11, 332, 172, 0), (11, 335, 171, 0), (11, 338, 173, 0), (11, 343, 177, 0), (11, 349, 178, 0), (11, 352, 180, 0), (11, 355, 158, 0), (11, 358, 181, 0), (11, 374, 183, 0), (11, 377, 184, 0), (11, 381, 185, 0), (11, 385, 186, 0), (11, 388, 189, 0), (11, 391, 192, 0), (11, 396, 195, 0), (11, 401, 198, 0), (13, 335, 208, 0), (13, 492, 209, 0), (13, 495, 211, 0), (13, 1059, 214, 0), (14, 9, 210, 0), (17, 9, 70, 0), (17, 12, 109, 0), (17, 13, 71, 0), (17, 17, 114, 0), (17, 18, 72, 0), (17, 22, 115, 0), (17, 23, 73, 0), (17, 27, 147, 0), (17, 28, 74, 0), (17, 31, 146, 0), (17, 32, 75, 0), (17, 35, 161, 0), (17, 36, 76, 0), (17, 40, 162, 0), (17, 41, 77, 0), (17, 44, 163, 0), (17, 45, 78, 0), (17, 48, 164, 0), (17, 49, 79, 0), (17, 52, 174, 0), (17, 53, 80, 0), (17, 56, 175, 0), (17, 57, 81, 0), (17, 60, 176, 0), (17, 61, 82, 0), (17, 64, 179, 0), (17, 65, 83, 0), (17, 69, 182, 0), (17, 70, 84, 0), (17, 73, 187, 0), (17, 74, 85, 0), (17, 77, 188, 0), (17, 78, 86, 0), (17, 81, 190, 0), (17, 82, 87, 0), (17, 85, 191, 0), (17, 86, 88, 0), (17, 89, 193, 0), (17, 90, 89, 0), (17, 93, 194, 0), (17, 94, 90, 0), (17, 97, 196, 0), (17, 98, 91, 0), (17, 102, 197, 0), (17, 103, 92, 0), (17, 106, 199, 0), (17, 107, 93, 0), (17, 110, 200, 0), (17, 111, 94, 0), (17, 115, 201, 0), (17, 116, 95, 0), (17, 119, 202, 0), (17, 120, 96, 0), (17, 123, 203, 0), (17, 124, 97, 0), (17, 127, 204, 0)]
def z_ck : List (Nat × Nat × Nat) := [(5, 40, 4), (6, 19, 1), (6, 19, 117), (8, 15, 3), (9, 29, 1), (10, 7, 3), (10, 10, 7), (10, 19, 8), (10, 28, 5), (10, 35, 118), (10, 45, 6), (10, 45, 119), (10, 61, 1), (10, 68, 0), (10, 75, 2), (10, 84, 9), (17, 7, 10), (17, 10, 11)]
def z_cst : List (Nat × Nat × Int) := [(6, 97, 65536), (11, 151, 99999), (11, 364, 1000000), (12, 265, 1431655765), (12, 266, 858993459), (12, 267, 252645135)]
def z_csl : List (Nat × Nat × Int) := [(6, 91, 1103515245), (6, 93, 12345), (6, 95, 2147483647), (11, 113, 1668245870), (11, 115, 512970880104), (11, 117, 6383461), (11, 119, 448311223411), (11, 121, 32497656931444581), (11, 123, 483006772069), (11, 125, 444150998386), (11, 127, 499850634610), (11, 129, 6578553), (11, 171, 7237492), (11, 191, 6385252), (11, 193, 28530), (11, 210, 123580963646565), (11, 215, 2036687218), (11, 226, 7364985), (11, 228, 6447474), (11, 230, 1752132965), (11, 232, 1835361652), (11, 286, 6), (11, 288, 2), (11, 341, 999), (11, 347, 400), (11, 394, 3), (11, 399, (-1)), (11, 404, 10), (11, 406, 1103515245), (11, 408, 12345), (11, 410, 2147483648), (11, 412, 65536)]
def z_sr : List (Nat × Nat × String) := [(5, 42, "pay bar home "), (5, 81, "and"), (5, 92, "or"), (5, 94, "not"), (5, 122, "coin worth age hands strange purse giver taker day "), (8, 56, "people year coin meet ")]
def z_ref : List (List Bool) := [[true, true], [false, false, false, false, false, false, false], [true, false], [false, false, false, false, true, true, true, true, true, true, true], [true, true, true], [true, true, false, true, true, false, false], [true, false, false, false, false, true], [true, false, false, false, false, false, false, false], [true, false, false], [true, true, true, true, false, false, false, true, true, false, true], [true, true, true, true, false, true, true, true, true, true, true, true, true, true, true], [true, false, false, true, true, true, true, false, false, false, false, true, true, false, false, false, false, false, false, false, true, false, true, false, true, true, false, true, true, false, true, false, false, false, true, true, true, true, true]]
def z_zbo : List (List Bool) := [[false, false], [false, false, false, false, true, false, false], [false, false], [false, false, false, false, false, false, false, false, false, false, false], [false, false, false], [false, false, false, false, false, false, false], [false, false, false, false, false, false], [false, false, false, false, false, false, false, false], [false, false, true], [false, false, false, false, false, false, true, false, false, false, false], [false, false, false, false, false, false, false, false, false, false, false, false, false, false, false], [false, false, false, false, false, false, false, false, false, false, false, false, false, false, false, false, false, false, false, false, false, false, false, false, false, false, false, false, false, false, false, false, false, false, false, false, false, false, false]]
def z_Ts (c : Nat) : u_T := match c with
  | 0 => TX0
  | 1 => TX1
  | 2 => TX2
  | 3 => TX3
  | 4 => TX4
  | 5 => TX5
  | 6 => TX6
  | 7 => TX7
  | 8 => TX8
  | 9 => TX9
  | 10 => TX10
  | _ => TX11
def z_tyX (c : Nat) : Nat → FieldType := match c with
  | 0 => tyX0
  | 1 => tyX1
  | 2 => tyX2
  | 3 => tyX3
  | 4 => tyX4
  | 5 => tyX5
  | 6 => tyX6
  | 7 => tyX7
  | 8 => tyX8
  | 9 => tyX9
  | 10 => tyX10
  | _ => tyX11
def z_cn (c : Nat) : String := match c with
  | 0 => RX0
  | 1 => RX1
  | 2 => RX2
  | 3 => RX3
  | 4 => RX4
  | 5 => RX5
  | 6 => RX6
  | 7 => RX7
  | 8 => RX8
  | 9 => RX9
  | 10 => RX10
  | _ => RX11
def z_sta : List Bool := [false, false, false, false, false, false, false, true, false, false, false, false, false, false, false, false, false, false, false, false, false, false, false, false, false, false, false, false, false, false, false, false, false, false, false, false, false, false, false, false, false, false, false, false, false, false, false, false, false, false, false, false, false, false, false, false, false, false, false, false, false, false, false, false, false, false, false, false, false, false, false, false, false, false, false, false, false, false, false, false, false, false, false, false, false, false, false, false, false, false, false, false, false, false, false, false, false, false, true, false, false, false, false, false, false, false, false, true, false, false, true, true, true, false, false, false, false, false, false, false, false, false, false, false, false, false, false, true, false, false, false, false, false, false, false, false, false, false, false, false, false, false, false, false, false, false, false, false, false, false, false, true, false, false, false, false, false, false, false, false, false, false, false, false, false, false, false, false, false, false, false, false, false, false, false, false, false, false, false, false, false, false, false, false, false, false, false, false, false, false, false, false, false, false, false, false, false, false, false, false, false, false, false, false, false, true, false, false, false, false, true, true, true, true, true, true]
def z_ini : List Bool := [true, false, false, false, false, false, false, false, true, false, false, false, false, true, false, false, false, false, true, false, false, true, false, true, false, false, false, false, false, false, false, false, false, false, true, false, false, false, false, false, false, false, false, false, false, false, true, false, false, false, false, false, false, false, false, false, true, false, false, false, false, false, true, false, false, false, false, false, false, false, true, false, false, false, false, false, false, false, false, false, false, false, false, false, false, false, false, false, false, false, false, false, false, false, false, false, false, false, false, false, false, false, false, false, false, false, false, false, false, true, false, false, false, false, false, false, false, false, false, false, false, false, false, false, false, false, false, false, false, false, false, false, false, false, false, false, false, false, false, false, false, false, false, false, false, false, false, false, false, false, false, false, false, false, false, false, false, false, false, false, false, false, false, false, false, false, false, false, false, false, false, false, false, false, false, false, false, false, false, false, false, false, false, false, false, false, false, false, false, false, false, false, false, false, false, false, false, false, false, false, false, false, false, false, false, false, false, false, false, false, false, false, false, false, false, false]
def z_idx : List Nat := [0, 1, 2, 3, 4, 5, 6, 7, 8, 9, 10, 11, 12, 13, 14, 15, 16, 17, 18, 19, 20, 21, 22, 23, 24, 25, 26, 27, 28, 29, 30, 31, 32, 33, 34, 35, 36, 37, 38, 39, 40, 41, 42, 43, 44, 45, 46, 47, 48, 49, 50, 51, 52, 53, 54, 55, 56, 57, 58, 59, 60, 61, 62, 63, 64, 65, 66, 67, 68, 69, 70, 71, 72, 73, 74, 75, 76, 77, 78, 79, 80, 81, 82, 83, 84, 85, 86, 87, 88, 89, 90, 91, 92, 93, 94, 95, 96, 97, 98, 99, 100, 101, 102, 103, 104, 105, 106, 107, 108, 109, 110, 111, 112, 113, 114, 115, 116, 117, 118, 119, 120, 121, 122, 123, 124, 125, 126, 127, 128, 129, 130, 131, 132, 133, 134, 135, 136, 137, 138, 139, 140, 141, 142, 143, 144, 145, 146, 147, 148, 149, 150, 151, 152, 153, 154, 155, 156, 157, 158, 159, 160, 161, 162, 163, 164, 165, 166, 167, 168, 169, 170, 171, 172, 173, 174, 175, 176, 177, 178, 179, 180, 181, 182, 183, 184, 185, 186, 187, 188, 189, 190, 191, 192, 193, 194, 195, 196, 197, 198, 199, 200, 201, 202, 203, 204, 205, 206, 207, 208, 209, 210, 211, 212, 213, 214, 215]
abbrev z_law : Nat := 215
def z_oi : List (Nat × Nat) := [(0, 1), (1, 3), (2, 3), (3, 3), (4, 1), (5, 3), (6, 3), (7, 3), (8, 3), (9, 3), (10, 1), (11, 1)]
def z_mi : List (Nat × Nat) := [(2, 88), (9, 140), (10, 285), (15, 304)]
def z_tb : List Cond := lw_tbl.filter goodWord
def z_rel (Y on : Nat) (ini : Bool) (ret : Option FieldType) (o : Instr) (len pc : Nat) (i : Instr) (np tg : Nat) : Bool := np == pc + len && (match i with
  | .iconst n => match o with
    | .iconst n' => n == n' && len == 1
    | .bipush n' => n == n' && len == 2 && decide ((Int8.ofInt n).toInt32 = Int32.ofInt n)
    | .sipush n' => n == n' && len == 3 && decide ((Int16.ofInt n).toInt32 = Int32.ofInt n)
    | .ldc x => len == 2 && decide ((on, x, n) ∈ z_cst)
    | .ldc_w x => len == 3 && decide ((on, x, n) ∈ z_cst)
    | _ => false
  | .goto_w n => match o with
    | .lconst k => len == 1 && decide (Int64.ofNat (k : Nat) = Int64.ofInt n)
    | .ldc2_w x => len == 3 && decide ((on, x, n) ∈ z_csl)
    | _ => false
  | .ldc k => match o with
    | .ldc x => len == 2 && k < 6 && decide ((z_sr.map (fun q => (q.1, q.2.1)))[k]? = some (on, x))
    | _ => false
  | .getstatic k => match o with
    | .getstatic x => len == 3 && on == 13 && ((k == 0 && x == 38) || (k == 1 && x == 1053))
    | _ => false
  | .iload k => match o with
    | .iload_n j => len == 1 && k == j.val
    | .iload j => len == 2 && k == j
    | _ => false
  | .lload k => match o with
    | .lload_n j => len == 1 && k == j.val
    | .lload j => len == 2 && k == j
    | _ => false
  | .aload k => match o with
    | .aload_n j => len == 1 && k == j.val
    | .aload j => len == 2 && k == j
    | _ => false
  | .istore k => match o with
    | .istore_n j => len == 1 && k == j.val
    | .istore j => len == 2 && k == j
    | _ => false
  | .lstore k => match o with
    | .lstore_n j => len == 1 && k == j.val
    | .lstore j => len == 2 && k == j
    | _ => false
  | .astore k => match o with
    | .astore_n j => len == 1 && k == j.val
    | .astore j => len == 2 && k == j
    | _ => false
  | .iinc k n => decide (o = .iinc k n) && len == 3
  | .aconst_null => decide (o = .aconst_null) && len == 1
  | .iadd => decide (o = .iadd) && len == 1
  | .isub => decide (o = .isub) && len == 1
  | .imul => decide (o = .imul) && len == 1
  | .idiv => decide (o = .idiv) && len == 1
  | .irem => decide (o = .irem) && len == 1
  | .ineg => decide (o = .ineg) && len == 1
  | .iand => decide (o = .iand) && len == 1
  | .ior => decide (o = .ior) && len == 1
  | .ixor => decide (o = .ixor) && len == 1
  | .ishl => decide (o = .ishl) && len == 1
  | .ishr => decide (o = .ishr) && len == 1
  | .iushr => decide (o = .iushr) && len == 1
  | .ladd => decide (o = .ladd) && len == 1
  | .lsub => decide (o = .lsub) && len == 1
  | .lmul => decide (o = .lmul) && len == 1
  | .ldiv => decide (o = .ldiv) && len == 1
  | .lrem => decide (o = .lrem) && len == 1
  | .land => decide (o = .land) && len == 1
  | .lor => decide (o = .lor) && len == 1
  | .lshl => decide (o = .lshl) && len == 1
  | .lcmp => decide (o = .lcmp) && len == 1
  | .i2l => decide (o = .i2l) && len == 1
  | .l2i => decide (o = .l2i) && len == 1
  | .i2b => decide (o = .i2b) && len == 1
  | .i2c => decide (o = .i2c) && len == 1
  | .dup => decide (o = .dup) && len == 1
  | .dup2 => decide (o = .dup2) && len == 1
  | .pop => decide (o = .pop) && len == 1
  | .arraylength => decide (o = .arraylength) && len == 1
  | .iaload => decide (o = .iaload) && len == 1
  | .baload => decide (o = .baload) && len == 1
  | .caload => decide (o = .caload) && len == 1
  | .laload => decide (o = .laload) && len == 1
  | .aaload => decide (o = .aaload) && len == 1
  | .iastore => decide (o = .iastore) && len == 1
  | .bastore => decide (o = .bastore) && len == 1
  | .castore => decide (o = .castore) && len == 1
  | .lastore => decide (o = .lastore) && len == 1
  | .aastore => decide (o = .aastore) && len == 1
  | .monitorenter => match o with
    | .invokespecial x => len == 3 && decide ((on, x) ∈ z_oi)
    | _ => false
  | .ifCond c _ => match o with
    | .ifCond c' f => len == 3 && c == c' && decide ((pc : Int) + f = (tg : Int))
    | _ => false
  | .if_icmp c _ => match o with
    | .if_icmp c' f => len == 3 && c == c' && decide ((pc : Int) + f = (tg : Int))
    | _ => false
  | .ifnull _ => match o with
    | .ifnull f => len == 3 && decide ((pc : Int) + f = (tg : Int))
    | _ => false
  | .ifnonnull _ => match o with
    | .ifnonnull f => len == 3 && decide ((pc : Int) + f = (tg : Int))
    | _ => false
  | .goto _ => match o with
    | .goto f => len == 3 && decide ((pc : Int) + f = (tg : Int))
    | _ => false
  | .tableswitch _ lo hi offs => match o with
    | .tableswitch d' lo' hi' offs' => lo == lo' && hi == hi' && decide ((pc : Int) + d' = (tg : Int)) && decide (offs.toList = offs'.toList.map (fun f => (pc : Int) + f)) && offs.toList.all (fun f => decide (0 ≤ f))
    | _ => false
  | .getfield c => match o with
    | .getfield x => len == 3 && decide ((on, x, c, tg) ∈ z_fl) && !((z_ref.getD c []).getD tg false)
    | _ => false
  | .instanceof c => match o with
    | .getfield x => len == 3 && decide ((on, x, c, tg) ∈ z_fl) && (z_ref.getD c []).getD tg false
    | _ => false
  | .putfield c => match o with
    | .putfield x => len == 3 && decide ((on, x, c, tg) ∈ z_fl) && !((z_ref.getD c []).getD tg false) && !((z_zbo.getD c []).getD tg false) && !(z_Ts c tg).2.2.2
    | _ => false
  | .ldc_w c => match o with
    | .putfield x => len == 3 && decide ((on, x, c, tg) ∈ z_fl) && !((z_ref.getD c []).getD tg false) && (z_zbo.getD c []).getD tg false && !(z_Ts c tg).2.2.2
    | _ => false
  | .putstatic c => match o with
    | .putfield x => len == 3 && decide ((on, x, c, tg) ∈ z_fl) && (z_ref.getD c []).getD tg false && (!(z_Ts c tg).2.2.2 || (ini && decide (z_owners.getD on "" = (z_Ts c tg).1)))
    | _ => false
  | .fload k => match o with
    | .getfield x => len == 3 && on == 13 && ((k == 0 && x == 9) || (k == 1 && x == 15))
    | _ => false
  | .new c => match o with
    | .new x => len == 3 && decide ((on, x, c) ∈ z_ck)
    | _ => false
  | .newarray t => decide (o = .newarray t) && len == 2
  | .anewarray kd => match o with
    | .anewarray x => len == 3 && decide ((on, x, 100 + kd) ∈ z_ck)
    | _ => false
  | .monitorexit => match o with
    | .invokevirtual x => len == 3 && on == 15 && x == 316
    | _ => false
  | .checkcast _ => match o with
    | .checkcast x => len == 3 && on == 15 && x == 317
    | _ => false
  | .swap => match o with
    | .invokestatic x => len == 3 && on == 15 && x == 150
    | _ => false
  | .fneg => match o with
    | .invokestatic x => len == 3 && decide ((on, x) ∈ z_mi)
    | _ => false
  | .ireturn => decide (o = .ireturn) && len == 1 && ((tg == 0 && decide (ret = some .int)) || (tg == 1 && decide (ret = some .boolean)) || (tg == 2 && decide (ret = some .byte)) || (tg == 3 && decide (ret = some .char)))
  | .lreturn => decide (o = .lreturn) && len == 1 && decide (ret = some .long)
  | .areturn => decide (o = .areturn) && len == 1 && (match ret with
    | some (.object _) => true
    | some (.array _) => true
    | _ => false)
  | .return_ => decide (o = .return_) && len == 1 && decide (ret = none)
  | .invokestatic y => match o with
    | .invokestatic x => len == 3 && (decide ((on, x, y, 0) ∈ z_mk) || decide ((on, x, y, 1) ∈ z_mk)) && z_sta.getD y false
    | _ => false
  | .invokespecial y => match o with
    | .invokespecial x => len == 3 && (decide ((on, x, y, 0) ∈ z_mk) || decide ((on, x, y, 1) ∈ z_mk)) && z_ini.getD y false
    | _ => false
  | .invokevirtual y => match o with
    | .invokevirtual x => len == 3 && decide ((on, x, y, 0) ∈ z_mk) && !(z_sta.getD y false) && !(z_ini.getD y false)
    | _ => false
  | _ => false)
def z_ckE (Y : Nat) (q : Nat × Instr × Nat × Nat) : Bool := match decode (z_codes.getD Y ⟨#[]⟩) q.1 with
  | .ok (o, len) => z_rel Y (z_on.getD Y 0) (z_ini.getD Y false) (z_rets.getD Y none) o len q.1 q.2.1 q.2.2.1 q.2.2.2
  | _ => false
