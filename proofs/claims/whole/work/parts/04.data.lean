/-! A small machine over typed stores: the program of this claim runs on it; part 06 shows that the machine of the claim does what it does. -/
def mj_yL : List MethodName := [
  yX0_init, yX0_cutTape, yX0_tokenFact, yX0_scanFact,
  yX0_lengthOfAll, yX0_findPiece, yX0_cutUnknown, yX0_cutToken,
  yX0_noteToken, yX0_tokenLength, yX0_findEnds, yX0_endsAt,
  yX1_init, yX1_clear, yX1_addState, yX1_setMove,
  yX1_hasState, yX1_stateBehind, yX1_answerOf, yX1_firstStateWith,
  yX1_letterOfFirstWord, yX1_wordsWith, yX1_lengthenWays, yX2_init,
  yX2_ofMode, yX2_allStates, yX3_init, yX3_makeMachine,
  yX3_findSets, yX3_lookBehind, yX3_setOn, yX3_numberOfWanted,
  yX3_isWanted, yX3_findKinds, yX3_refineKinds, yX3_areAlike,
  yX3_kindBehind, yX3_numberKinds, yX3_numberKind, yX4_init,
  yX4_readPattern, yX4_readLook, yX4_readEither, yX4_readRow,
  yX4_readItem, yX4_readAtom, yX4_readGroup, yX4_readSpans,
  yX4_readSpan, yX4_readLetter, yX4_readClosing, yX4_fail,
  yX4_peek, yX4_isLetter, yX4_bitOf, yX4_beginsAtom,
  yX4_pushPlace, yX4_joinAsEither, yX4_joinAsRow, yX4_hasTwoParts,
  yX5_init, yX5_clear, yX5_addPlace, yX5_setToken,
  yX5_setLook, yX5_letFollow, yX5_followersOf, yX5_followedBy,
  yX5_findUseful, yX5_placesOn, yX5_fact, yX6_init,
  yX6_has, yX6_rowAt, yX6_rowOfMode, yX6_freeRow,
  yX6_keepFreeRow, yX7_init, yX7_appendNumber, yX7_byteAt,
  yX7_letterAt, yX8_init, yX8_feed, yX8_trim,
  yX8_addRule, yX8_errorAt, yX8_rule, yX8_count,
  yX8_build, yX8_states, yX8_next, yX8_answer,
  yX8_isMet, yX8_words, yX8_shortest, yX8_scan,
  yX8_token, yX8_scanned, yX8_meanLength, yX8_digest,
  yX8_mixed, yX8_mixedWithRules, yX8_mixedWithMachine, yX8_mixedWithTokens,
  yX8_isMode, yX8_countOf, yX8_machineAbout, yX9_init,
  yX10_init, yX10_thrown, yX10_fail, yX10_isIn,
  yX10_feed, yX10_four, yX10_trim, yX10_now,
  yX10_isLetter, yX10_either, yX10_isAtom, yX10_row,
  yX10_link, yX10_item, yX10_place, yX10_atom,
  yX10_letter, yX10_spans, yX10_pattern, yX10_addRule,
  yX10_behind, yX10_ends, yX10_findUseful, yX10_errorAt,
  yX10_ruleTold, yX10_rule, yX10_counted, yX10_count,
  yX10_matching, yX10_nextPlaces, yX10_lead, yX10_isSame,
  yX10_findSets, yX10_findClasses, yX10_classOf, yX10_areAlike,
  yX10_number, yX10_build, yX10_isMode, yX10_to,
  yX10_states, yX10_next, yX10_answer, yX10_isRule,
  yX10_statesOf, yX10_isMet, yX10_words, yX10_shortest,
  yX10_note, yX10_step, yX10_match, yX10_follows,
  yX10_cut, yX10_scan, yX10_token, yX10_scanned,
  yX10_meanLength, yX10_digest, yJ6_bitCount_0f7a4, yL_feed,
  yL_trim, yL_addRule, yL_rule, yL_count,
  yL_build, yL_states, yL_next, yL_answer,
  yL_isMet, yL_words, yL_shortest, yL_scan,
  yL_token, yL_scanned, yL_law
  ]
def mj_cL : List ByteArray := [
  cX0_init, cX0_cutTape, cX0_tokenFact, cX0_scanFact,
  cX0_lengthOfAll, cX0_findPiece, cX0_cutUnknown, cX0_cutToken,
  cX0_noteToken, cX0_tokenLength, cX0_findEnds, cX0_endsAt,
  cX1_init, cX1_clear, cX1_addState, cX1_setMove,
  cX1_hasState, cX1_stateBehind, cX1_answerOf, cX1_firstStateWith,
  cX1_letterOfFirstWord, cX1_wordsWith, cX1_lengthenWays, cX2_init,
  cX2_ofMode, cX2_allStates, cX3_init, cX3_makeMachine,
  cX3_findSets, cX3_lookBehind, cX3_setOn, cX3_numberOfWanted,
  cX3_isWanted, cX3_findKinds, cX3_refineKinds, cX3_areAlike,
  cX3_kindBehind, cX3_numberKinds, cX3_numberKind, cX4_init,
  cX4_readPattern, cX4_readLook, cX4_readEither, cX4_readRow,
  cX4_readItem, cX4_readAtom, cX4_readGroup, cX4_readSpans,
  cX4_readSpan, cX4_readLetter, cX4_readClosing, cX4_fail,
  cX4_peek, cX4_isLetter, cX4_bitOf, cX4_beginsAtom,
  cX4_pushPlace, cX4_joinAsEither, cX4_joinAsRow, cX4_hasTwoParts,
  cX5_init, cX5_clear, cX5_addPlace, cX5_setToken,
  cX5_setLook, cX5_letFollow, cX5_followersOf, cX5_followedBy,
  cX5_findUseful, cX5_placesOn, cX5_fact, cX6_init,
  cX6_has, cX6_rowAt, cX6_rowOfMode, cX6_freeRow,
  cX6_keepFreeRow, cX7_init, cX7_appendNumber, cX7_byteAt,
  cX7_letterAt, cX8_init, cX8_feed, cX8_trim,
  cX8_addRule, cX8_errorAt, cX8_rule, cX8_count,
  cX8_build, cX8_states, cX8_next, cX8_answer,
  cX8_isMet, cX8_words, cX8_shortest, cX8_scan,
  cX8_token, cX8_scanned, cX8_meanLength, cX8_digest,
  cX8_mixed, cX8_mixedWithRules, cX8_mixedWithMachine, cX8_mixedWithTokens,
  cX8_isMode, cX8_countOf, cX8_machineAbout, cX9_init,
  cX10_init, cX10_thrown, cX10_fail, cX10_isIn,
  cX10_feed, cX10_four, cX10_trim, cX10_now,
  cX10_isLetter, cX10_either, cX10_isAtom, cX10_row,
  cX10_link, cX10_item, cX10_place, cX10_atom,
  cX10_letter, cX10_spans, cX10_pattern, cX10_addRule,
  cX10_behind, cX10_ends, cX10_findUseful, cX10_errorAt,
  cX10_ruleTold, cX10_rule, cX10_counted, cX10_count,
  cX10_matching, cX10_nextPlaces, cX10_lead, cX10_isSame,
  cX10_findSets, cX10_findClasses, cX10_classOf, cX10_areAlike,
  cX10_number, cX10_build, cX10_isMode, cX10_to,
  cX10_states, cX10_next, cX10_answer, cX10_isRule,
  cX10_statesOf, cX10_isMet, cX10_words, cX10_shortest,
  cX10_note, cX10_step, cX10_match, cX10_follows,
  cX10_cut, cX10_scan, cX10_token, cX10_scanned,
  cX10_meanLength, cX10_digest, cJ6_bitCount_0f7a4, cL_feed,
  cL_trim, cL_addRule, cL_rule, cL_count,
  cL_build, cL_states, cL_next, cL_answer,
  cL_isMet, cL_words, cL_shortest, cL_scan,
  cL_token, cL_scanned, cL_law
  ]
def mj_lL : List Nat := [
  1, 7, 4, 2, 3, 6, 1, 4, 4, 5, 5, 2, 1, 1, 5, 4, 2, 3, 2, 3, 6, 6, 4, 2, 2, 4, 1, 4, 6, 7,
  6, 2, 3, 4, 4, 4, 4, 5, 6, 1, 4, 2, 4, 4, 5, 4, 3, 4, 6, 2, 2, 1, 1, 1, 1, 1, 4, 3, 4, 1,
  1, 5, 4, 4, 4, 4, 4, 5, 4, 2, 2, 2, 2, 2, 4, 1, 1, 1, 3, 2, 3, 1, 6, 2, 5, 1, 4, 2, 2, 3,
  5, 4, 3, 4, 4, 1, 3, 2, 2, 4, 3, 8, 7, 7, 1, 2, 3, 2, 1, 1, 2, 3, 6, 3, 2, 1, 1, 4, 1, 4,
  4, 2, 3, 3, 2, 5, 2, 6, 3, 2, 4, 1, 3, 3, 2, 2, 6, 6, 7, 5, 5, 5, 2, 5, 7, 3, 1, 4, 2, 4,
  3, 2, 2, 4, 8, 9, 6, 6, 6, 6, 6, 10, 3, 2, 3, 5, 1, 8, 4, 6, 5, 4, 3, 4, 6, 5, 4, 5, 5, 3,
  5, 4, 9
  ]
def mj_rL : List (Option FieldType) := [
  none, none, (some .int), (some .int), (some .int), none, (some .boolean), (some .boolean),
  (some .boolean), (some .int), none, (some .boolean), none, none, (some .int), none,
  (some .boolean), (some .int), (some .int), (some .int), (some .int), (some .long), none, none,
  (some (.object "LexerForge$Machine")), (some .int), none, (some .boolean), (some .boolean), none, (some .int), (some .int),
  (some .boolean), none, (some .int), (some .boolean), (some .int), none, (some .int), none,
  (some .int), none, none, none, none, none, none, none,
  (some .int), (some .int), none, none, (some .int), (some .boolean), (some .int), (some .boolean),
  none, none, none, (some .boolean), none, none, (some .int), none,
  none, none, (some .int), (some .int), none, (some .int), (some .int), none,
  (some .boolean), (some (.object "LexerForge$Rule")), (some (.object "LexerForge$Rule")), (some (.object "LexerForge$Rule")), none, none, none, (some .int),
  (some .int), none, (some .int), (some .int), (some .int), (some .int), (some .int), (some .int),
  (some .int), (some .int), (some .int), (some .int), (some .boolean), (some .long), (some .int), (some .int),
  (some .int), (some .int), (some .double), (some .long), (some .long), (some .long), (some .long), (some .long),
  (some .boolean), (some .int), (some (.object "LexerForge$Machine")), none, none, (some .int), (some .int), (some .boolean),
  (some .int), none, (some .int), (some .int), (some .boolean), none, (some .boolean), none,
  none, none, none, none, (some .int), (some .int), (some .int), (some .int),
  (some .int), (some .int), none, (some .int), (some .int), (some .int), (some .int), (some .int),
  (some .int), (some .int), (some .int), (some .boolean), (some .boolean), none, (some .int), (some .boolean),
  none, (some .int), (some .boolean), (some .int), (some .int), (some .int), (some .int), (some .boolean),
  (some .int), (some .boolean), (some .long), (some .int), (some .boolean), (some .int), (some .int), (some .boolean),
  (some .int), (some .int), (some .int), (some .int), (some .double), (some .long), (some .int), (some .int),
  (some .int), (some .int), (some .int), (some .int), (some .int), (some .int), (some .int), (some .int),
  (some .int), (some .int), (some .int), (some .int), (some .int), (some .int), (some .boolean)
  ]
def mj_oL : List Nat := [
  0, 0, 0, 0, 0, 0, 0, 0, 0, 0, 0, 0, 1, 1, 1, 1, 1, 1, 1, 1, 1, 1, 1, 2, 2, 2, 3, 3, 3, 3,
  3, 3, 3, 3, 3, 3, 3, 3, 3, 4, 4, 4, 4, 4, 4, 4, 4, 4, 4, 4, 4, 4, 4, 4, 4, 4, 4, 4, 4, 4,
  5, 5, 5, 5, 5, 5, 5, 5, 5, 5, 5, 6, 6, 6, 6, 6, 6, 7, 7, 7, 7, 8, 8, 8, 8, 8, 8, 8, 8, 8,
  8, 8, 8, 8, 8, 8, 8, 8, 8, 8, 8, 8, 8, 8, 8, 8, 8, 9, 10, 10, 10, 10, 10, 10, 10, 10, 10, 10, 10, 10,
  10, 10, 10, 10, 10, 10, 10, 10, 10, 10, 10, 10, 10, 10, 10, 10, 10, 10, 10, 10, 10, 10, 10, 10, 10, 10, 10, 10, 10, 10,
  10, 10, 10, 10, 10, 10, 10, 10, 10, 10, 10, 10, 10, 10, 10, 10, 12, 11, 11, 11, 11, 11, 11, 11, 11, 11, 11, 11, 11, 11,
  11, 11, 11
  ]
def mj_aL : List Nat := [
  0, 3, 2, 1, 0, 2, 0, 2, 2, 2, 2, 1, 0, 0, 3, 3, 1, 2, 1, 1, 2, 2, 0, 0, 1, 0, 0, 3, 2, 3,
  2, 0, 1, 0, 0, 2, 2, 1, 4, 0, 2, 1, 2, 2, 2, 2, 2, 1, 0, 0, 1, 0, 0, 1, 1, 1, 2, 0, 1, 0,
  0, 3, 1, 3, 3, 2, 1, 2, 0, 1, 1, 0, 1, 1, 2, 0, 0, 0, 1, 1, 1, 0, 5, 1, 3, 0, 2, 1, 0, 1,
  3, 2, 1, 2, 2, 0, 2, 1, 0, 0, 2, 1, 2, 1, 1, 1, 1, 1, 0, 0, 1, 3, 5, 1, 1, 0, 1, 0, 0, 0,
  2, 0, 1, 0, 0, 0, 0, 3, 2, 1, 1, 0, 2, 2, 1, 1, 3, 3, 3, 2, 1, 0, 1, 2, 1, 0, 1, 3, 1, 3,
  2, 1, 1, 1, 2, 2, 4, 3, 3, 3, 3, 0, 2, 1, 0, 0, 1, 7, 3, 5, 4, 3, 2, 3, 5, 4, 3, 4, 4, 2,
  4, 3, 1
  ]
def mj_sL : List Bool := [
  false, false, false, false, false, false, false, false, false, false, false, false, false, false, false, false,
  false, false, false, false, false, false, false, false, false, false, false, false, false, false, false, false,
  false, false, false, false, false, false, false, false, false, false, false, false, false, false, false, false,
  false, false, false, false, false, true, true, true, false, false, false, false, false, false, false, false,
  false, false, false, false, false, false, false, false, false, false, false, false, false, false, false, false,
  false, false, false, false, false, false, false, false, false, false, false, false, false, false, false, false,
  false, false, false, false, true, false, true, false, true, false, false, false, false, false, false, true,
  false, false, false, false, true, false, false, false, false, false, false, false, false, false, false, false,
  false, false, false, false, false, false, false, false, false, false, false, false, false, false, false, false,
  false, false, true, false, false, false, false, false, false, false, false, false, false, false, false, false,
  false, false, false, false, false, false, true, true, true, true, true, true, true, true, true, true,
  true, true, true, true, true, true, false
  ]
/-- rows of exception tables: from, to, handler, type -/
def mj_hL : List (Nat × List (Nat × Nat × Nat × Nat)) := [(127, [(52, 69, 72, 126)]), (167, [(0, 16, 19, 13)]), (168, [(0, 9, 12, 19)]), (169, [(0, 12, 15, 19), (0, 12, 19, 13)]), (170, [(0, 10, 13, 29)]), (171, [(0, 9, 12, 29)]), (172, [(0, 8, 11, 13)]), (173, [(0, 9, 12, 29)]), (174, [(0, 12, 15, 29)]), (175, [(0, 10, 13, 29)]), (176, [(0, 16, 19, 29)]), (177, [(0, 9, 12, 29), (0, 9, 16, 19)]), (178, [(0, 10, 13, 29)]), (179, [(0, 8, 11, 13)]), (180, [(0, 10, 13, 29)]), (181, [(0, 9, 12, 29)])]
/-- fields: by class and pool entry: class, place -/
def mj_fL : List (Nat × Nat × Nat) := [
  (7009, 7, 0), (8058, 7, 1), (7015, 7, 1), (35, 7, 1), (4059, 7, 1), (5009, 5, 0), (5015, 5, 1), (5018, 5, 2), (6026, 5, 2), (8228, 5, 2),
  (5022, 5, 3), (101, 5, 3), (5025, 5, 4), (98, 5, 4), (5029, 5, 5), (88, 5, 5), (5032, 5, 6), (4094, 5, 6), (5035, 5, 7), (118, 5, 7),
  (5038, 5, 8), (3068, 5, 8), (130, 5, 8), (5044, 5, 9), (3077, 5, 9), (115, 5, 9), (5041, 5, 10), (133, 5, 10), (5050, 5, 11), (124, 5, 11),
  (5047, 5, 12), (8099, 5, 12), (5053, 5, 13), (108, 5, 13), (5060, 5, 14), (6011, 6, 0), (6018, 6, 1), (8137, 6, 1), (4009, 4, 0), (4015, 4, 1),
  (4018, 4, 2), (4021, 4, 3), (4031, 4, 4), (4035, 4, 5), (4038, 4, 6), (3009, 3, 0), (3015, 3, 1), (3018, 3, 2), (3021, 3, 3), (3024, 3, 4),
  (3027, 3, 5), (3030, 3, 6), (3033, 3, 7), (3036, 3, 8), (3050, 3, 9), (9, 0, 0), (15, 0, 1), (19, 0, 2), (8195, 0, 2), (23, 0, 3),
  (26, 0, 4), (29, 0, 5), (32, 0, 6), (69, 0, 7), (48, 0, 8), (1009, 1, 0), (1015, 1, 1), (1018, 1, 2), (1021, 1, 3), (1024, 1, 4),
  (1027, 1, 5), (1031, 1, 6), (1034, 1, 7), (2026, 1, 7), (8150, 1, 7), (3121, 1, 7), (2011, 2, 0), (8010, 8, 0), (8019, 8, 1), (8026, 8, 2),
  (8033, 8, 3), (8040, 8, 4), (8047, 8, 5), (8051, 8, 6), (8141, 8, 7), (8138, 8, 8), (8054, 8, 9), (10105, 10, 0), (10009, 10, 1), (10108, 10, 2),
  (10013, 10, 3), (10162, 10, 4), (10017, 10, 5), (10020, 10, 6), (10023, 10, 7), (10027, 10, 8), (10030, 10, 9), (10033, 10, 10), (10036, 10, 11), (10039, 10, 12),
  (10042, 10, 13), (10045, 10, 14), (10048, 10, 15), (10051, 10, 16), (10054, 10, 17), (10123, 10, 18), (10168, 10, 19), (10133, 10, 20), (10136, 10, 21), (10139, 10, 22),
  (10255, 10, 23), (10258, 10, 24), (10057, 10, 25), (10062, 10, 26), (10065, 10, 27), (10068, 10, 28), (10219, 10, 29), (10071, 10, 30), (10074, 10, 31), (10077, 10, 32),
  (10080, 10, 33), (10083, 10, 34), (10086, 10, 35), (10090, 10, 36), (10093, 10, 37), (10206, 10, 38), (10096, 10, 39), (10099, 10, 40), (10102, 10, 41), (9007, 9, 6),
  (10186, 9, 6)
  ]
/-- methods: by class and pool entry: 0 one of these, 1 Object.<init>, 2 RuntimeException.<init>, 3 System.arraycopy, 4 Math.max, 5 Math.min -/
def mj_mL : List (Nat × Nat × Nat) := [
  (11068, 0, 81), (8001, 1, 0), (8009, 0, 77), (7003, 1, 0), (8018, 0, 71), (6003, 1, 0), (6017, 0, 60), (5003, 1, 0), (8025, 0, 39), (4003, 1, 0),
  (8032, 0, 26), (3003, 1, 0), (8039, 0, 0), (3, 1, 0), (8046, 0, 23), (2003, 1, 0), (2017, 0, 12), (1003, 1, 0), (11089, 0, 85), (11132, 0, 98),
  (8206, 0, 4), (65, 0, 2), (11137, 0, 99), (8124, 0, 105), (8211, 0, 100), (8215, 0, 101), (8109, 0, 73), (8118, 0, 70), (5067, 0, 166), (8127, 0, 24),
  (2018, 0, 104), (8219, 0, 102), (8164, 0, 18), (1038, 0, 16), (8158, 0, 17), (8223, 0, 103), (8198, 0, 2), (8203, 0, 3), (11072, 0, 167), (11007, 0, 82),
  (8068, 0, 78), (11081, 0, 168), (11015, 0, 83), (11085, 0, 169), (11021, 0, 84), (8077, 0, 104), (8083, 0, 75), (8089, 0, 61), (8095, 0, 40), (4025, 0, 79),
  (4041, 0, 42), (4068, 0, 43), (4074, 0, 44), (4084, 0, 45), (4051, 0, 52), (4091, 0, 46), (4062, 0, 51), (4106, 0, 50), (4077, 0, 55), (4113, 0, 53),
  (4097, 0, 47), (4110, 0, 48), (4116, 0, 49), (4100, 0, 54), (4103, 0, 56), (4119, 0, 62), (4087, 0, 65), (4081, 0, 58), (4122, 0, 59), (4071, 0, 57),
  (4045, 0, 63), (4055, 0, 41), (4065, 0, 64), (5056, 0, 65), (8103, 0, 68), (5063, 0, 67), (8106, 0, 76), (11093, 0, 170), (11025, 0, 86), (11097, 0, 171),
  (11031, 0, 87), (11100, 0, 172), (11034, 0, 88), (8131, 0, 27), (3039, 0, 28), (3054, 0, 29), (3062, 0, 74), (6022, 0, 73), (3073, 0, 66), (3058, 0, 30),
  (3080, 0, 73), (3084, 0, 69), (3087, 0, 31), (3091, 0, 32), (3095, 3, 0), (3043, 0, 33), (3101, 0, 34), (3104, 0, 35), (3108, 0, 36), (3046, 0, 37),
  (3112, 0, 13), (3117, 0, 38), (3126, 0, 14), (3122, 0, 15), (8144, 0, 25), (2022, 0, 24), (11104, 0, 173), (11038, 0, 89), (11107, 0, 174), (11041, 0, 90),
  (8153, 0, 16), (11111, 0, 175), (11045, 0, 91), (11114, 0, 176), (11048, 0, 92), (8167, 0, 72), (8172, 0, 106), (8175, 0, 19), (11117, 0, 177), (11052, 0, 93),
  (8180, 0, 21), (1042, 0, 22), (1045, 0, 17), (1049, 3, 0), (11120, 0, 178), (11056, 0, 94), (8186, 0, 20), (11123, 0, 179), (11059, 0, 95), (8191, 0, 1),
  (38, 0, 24), (44, 0, 5), (72, 0, 80), (7019, 0, 79), (76, 0, 17), (81, 0, 18), (51, 0, 73), (57, 0, 6), (84, 0, 8), (61, 0, 7),
  (94, 0, 9), (104, 0, 10), (121, 0, 69), (136, 0, 66), (111, 0, 11), (127, 0, 67), (11126, 0, 180), (11062, 0, 96), (11129, 0, 181), (11065, 0, 97),
  (11071, 0, 108), (10001, 1, 0), (11078, 0, 109), (11077, 0, 112), (10111, 0, 110), (10115, 0, 113), (11084, 0, 114), (10119, 0, 111), (11088, 0, 127), (10183, 0, 126),
  (10171, 0, 117), (10130, 0, 119), (10151, 0, 121), (10165, 0, 123), (10143, 0, 115), (10128, 0, 107), (9001, 2, 0), (10147, 0, 116), (10174, 0, 125), (10180, 0, 124),
  (10177, 0, 122), (10158, 0, 120), (10154, 0, 118), (10188, 0, 130), (10191, 0, 129), (10194, 0, 128), (11092, 0, 131), (11096, 0, 133), (10203, 0, 132), (10198, 0, 166),
  (11099, 0, 135), (10209, 0, 134), (11103, 0, 145), (10240, 0, 140), (10226, 0, 138), (10216, 0, 137), (10212, 0, 136), (10222, 0, 139), (10229, 4, 0), (10243, 0, 141),
  (10234, 0, 143), (10237, 0, 142), (10246, 0, 144), (10249, 3, 0), (11106, 0, 148), (10261, 0, 146), (11110, 0, 149), (10264, 0, 147), (11113, 0, 150), (11116, 0, 153),
  (10267, 0, 151), (10270, 0, 152), (11119, 0, 154), (11122, 0, 155), (10273, 5, 0), (11125, 0, 161), (10284, 0, 156), (10288, 0, 160), (10276, 0, 158), (10279, 0, 157),
  (10282, 0, 159), (11128, 0, 162), (11131, 0, 163), (11136, 0, 164), (11141, 0, 165)
  ]
/-- classes of new -/
def mj_nL : List (Nat × Nat) := [
  (11008, 8), (8007, 7), (8016, 6), (6009, 5), (8023, 4), (8030, 3), (8037, 0), (8044, 2), (2009, 1), (11069, 10), (10126, 9)
  ]
/-- exceptions: by class and pool entry -/
def mj_xL : List (Nat × Nat) := [
  (11013, 0), (8061, 0), (11019, 1), (8072, 1), (11029, 2), (8113, 2), (10126, 3)
  ]
def mj_kL : List (Nat × Int32) := [
  (12265, 1431655765), (12266, 858993459), (12267, 252645135)
  ]
def mj_k2L : List (Nat × Int64) := [
  (8209, 383), (8226, 31), (10291, 383), (10293, 31)
  ]
def mj_tL : List (List Nat) := [
  [2, 2, 0, 0, 0, 0, 0, 0, 0],
  [2, 2, 2, 2, 2, 2, 2, 0],
  [2],
  [2, 2, 2, 2, 2, 2, 2, 2, 2, 0],
  [2, 2, 2, 2, 0, 0, 0],
  [2, 2, 0, 0, 1, 1, 0, 0, 0, 0, 0, 0, 1, 1, 0],
  [2, 0],
  [2, 0],
  [2, 2, 2, 2, 2, 2, 2, 1, 0, 0],
  [2, 2, 2, 2, 2, 0, 0],
  [0, 2, 0, 0, 0, 2, 2, 2, 2, 2, 2, 2, 2, 2, 2, 2, 2, 2, 0, 0, 0, 0, 1, 1, 0, 2, 2, 2, 2, 0, 2, 2, 2, 2, 2, 2, 2, 2, 0, 2, 2, 2]
  ]
def mj_zL : List (List Bool) := [
  [true, true, false, false, false, false, false, false, false],
  [true, true, true, true, true, true, true, false],
  [true],
  [true, true, true, true, true, true, true, true, true, false],
  [true, true, true, true, false, false, false],
  [true, true, false, false, false, false, false, false, false, false, false, false, false, false, false],
  [true, false],
  [true, false],
  [true, true, true, true, true, false, false, false, false, false],
  [false, false, false, false, false, false, true],
  [false, true, false, false, false, true, true, true, true, true, true, true, true, true, true, true, true, true, false, false, false, false, false, false, false, true, true, true, true, false, true, true, true, true, true, true, true, true, false, true, true, true]
  ]
/-- throws of the reference: new Wrong(at) -/
def mj_vL : List Nat := [1150020, 1230073, 1230134, 1240012, 1260181]
/-- throws: by method and place: the exception, pool entries of class, text, constructor -/
def mj_wL : List (Nat × Nat × Nat × Nat × Nat) := [
  (820013, 0, 61, 63, 65), (830015, 1, 72, 74, 76), (840014, 1, 72, 81, 76), (840038, 0, 61, 87, 65), (860023, 2, 113, 115, 117), (870009, 2, 113, 122, 117),
  (880030, 0, 61, 135, 65), (890013, 2, 113, 148, 117), (900034, 2, 113, 156, 117), (910021, 2, 113, 162, 117), (920011, 2, 113, 170, 117), (930011, 2, 113, 170, 117),
  (930031, 1, 72, 178, 76), (940021, 2, 113, 184, 117), (950007, 0, 61, 189, 65), (960024, 2, 113, 196, 117), (970009, 2, 113, 201, 117)
  ]
def mj_lk {α : Type} : List (Nat × α) → Nat → Option α
  | [], _ => none
  | p :: r, n => if n = p.1 then some p.2 else mj_lk r n
def mj_y (M : Nat) : MethodName := mj_yL.getD M yL_law
def mj_c (M : Nat) : ByteArray := mj_cL.getD M ⟨#[]⟩
def mj_l (M : Nat) : Nat := mj_lL.getD M 0
def mj_r (M : Nat) : Option FieldType := mj_rL.getD M none
def mj_o (M : Nat) : Nat := mj_oL.getD M 99
def mj_a (M : Nat) : Nat := mj_aL.getD M 0
def mj_s (M : Nat) : Bool := mj_sL.getD M false
def mj_h (M : Nat) : List (Nat × Nat × Nat × Nat) := (mj_lk mj_hL M).getD []
def mj_fld (o i : Nat) : Option (Nat × Nat) := if i < 1000 then mj_lk mj_fL (o * 1000 + i) else none
def mj_mth (o i : Nat) : Option (Nat × Nat) := if i < 1000 then mj_lk mj_mL (o * 1000 + i) else none
def mj_cls (o i : Nat) : Option Nat := if i < 1000 then mj_lk mj_nL (o * 1000 + i) else none
def mj_exc (o i : Nat) : Option Nat := if i < 1000 then mj_lk mj_xL (o * 1000 + i) else none
def mj_thw (M pc : Nat) : Bool := decide (pc < 10000) && mj_vL.contains (M * 10000 + pc)
def mj_ki (o i : Nat) : Option Int32 := if i < 1000 then mj_lk mj_kL (o * 1000 + i) else none
def mj_k2 (o i : Nat) : Option Int64 := if i < 1000 then mj_lk mj_k2L (o * 1000 + i) else none
def mj_thr (M pc : Nat) : Option (Nat × Nat × Nat × Nat) := if pc < 10000 then mj_lk mj_wL (M * 10000 + pc) else none
def mj_ft (ci k : Nat) : Nat := (mj_tL.getD ci []).getD k 3
def mj_fin (ci k : Nat) : Bool := (mj_zL.getD ci []).getD k false
def mj_isI (M : Nat) : Bool := decide ((mj_y M).name = "<init>")
def mj_nf (ci : Nat) : Nat := (mj_tL.getD ci []).length

