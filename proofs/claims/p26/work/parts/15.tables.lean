/-! ===== tables of this class: methods, fields, calls, constants, the cells that the constructors make ===== -/
/-- name, code, locals, what it returns, whose it is, kind (0 of an object, 1 static, 2 a constructor), how many values it takes, frames and words that it needs below it -/
abbrev MRow : Type := MethodName × ByteArray × Nat × Option FieldType × Nat × Nat × Nat × Nat × Nat
def mTab_0 : List MRow := [(yX0_init, cX0_init, 2, none, 0, 2, 1, 5, 141),
  (yX0_settle, cX0_settle, 5, none, 0, 0, 3, 3, 76),
  (yX0_handDown, cX0_handDown, 7, none, 0, 0, 2, 2, 46),
  (yX0_heft, cX0_heft, 2, (some .int), 0, 0, 2, 0, 0),
  (yX0_takeOn, cX0_takeOn, 6, none, 0, 0, 3, 1, 21),
  (yX0_outline, cX0_outline, 5, none, 0, 0, 2, 2, 52),
  (yX0_failing, cX0_failing, 5, (some .int), 0, 0, 3, 3, 89),
  (yX0_why, cX0_why, 5, (some .int), 0, 0, 4, 2, 65),
  (yX0_placed, cX0_placed, 11, (some .int), 0, 0, 4, 1, 35),
  (yX0_toFloor, cX0_toFloor, 2, (some .int), 0, 0, 2, 1, 21),
  (yX0_whoFailsBy, cX0_whoFailsBy, 4, (some .int), 0, 0, 2, 3, 89),
  (yX0_heaviestOn, cX0_heaviestOn, 5, (some .int), 0, 0, 2, 2, 45),
  (yX0_allToFloor, cX0_allToFloor, 3, (some .int), 0, 0, 1, 2, 42),
  (yX1_init, cX1_init, 1, none, 1, 2, 1, 3, 100),
  (yX1_areaWith, cX1_areaWith, 4, (some .int), 1, 0, 2, 1, 21),
  (yX1_right, cX1_right, 2, (some .int), 1, 0, 2, 0, 0),
  (yX1_left, cX1_left, 2, (some .int), 1, 0, 2, 0, 0),
  (yX1_far, cX1_far, 2, (some .int), 1, 0, 2, 0, 0),
  (yX1_near, cX1_near, 2, (some .int), 1, 0, 2, 0, 0),
  (yX1_top, cX1_top, 1, (some .int), 1, 0, 1, 0, 0),
  (yX1_size, cX1_size, 1, (some .int), 1, 0, 1, 0, 0),
  (yX1_bears, cX1_bears, 1, (some .int), 1, 0, 1, 0, 0),
  (yX1_grip, cX1_grip, 1, (some .int), 1, 0, 1, 0, 0),
  (yX1_isOfKind, cX1_isOfKind, 4, (some .boolean), 1, 0, 2, 0, 0),
  (yX1_meetsAlongY, cX1_meetsAlongY, 2, (some .boolean), 1, 0, 2, 1, 21),
  (yX1_meetsInHeight, cX1_meetsInHeight, 2, (some .boolean), 1, 0, 2, 1, 20),
  (yX1_ownCentreX, cX1_ownCentreX, 2, (some .int), 1, 0, 1, 0, 0),
  (yX1_ownCentreY, cX1_ownCentreY, 2, (some .int), 1, 0, 1, 0, 0),
  (yX1_isOnFloor, cX1_isOnFloor, 1, (some .boolean), 1, 0, 1, 0, 0),
  (yX1_floorContact, cX1_floorContact, 1, (some .int), 1, 0, 1, 1, 20),
  (yX1_become, cX1_become, 2, none, 1, 0, 2, 0, 0),
  (yX2_init, cX2_init, 1, none, 2, 2, 1, 6, 162),
  (yX2_begin, cX2_begin, 1, none, 2, 0, 1, 1, 23),
  (yX2_freeIn, cX2_freeIn, 6, (some .int), 2, 0, 3, 4, 113),
  (yX2_findOrders, cX2_findOrders, 4, (some .int), 2, 0, 2, 6, 161),
  (yX2_findFree, cX2_findFree, 4, none, 2, 0, 2, 5, 138),
  (yX2_findFirst, cX2_findFirst, 5, none, 2, 0, 2, 1, 21),
  (yX3_init, cX3_init, 2, none, 3, 2, 1, 4, 120),
  (yX3_receive, cX3_receive, 9, (some .int), 3, 0, 6, 4, 123),
  (yX3_greatestTopUnder, cX3_greatestTopUnder, 4, (some .int), 3, 0, 2, 3, 100),
  (yX3_noteContacts, cX3_noteContacts, 4, none, 3, 0, 2, 2, 44),
  (yX3_knows, cX3_knows, 2, (some .boolean), 3, 0, 2, 0, 0),
  (yX3_has, cX3_has, 2, (some .boolean), 3, 0, 2, 1, 21),
  (yX3_above, cX3_above, 5, (some .int), 3, 0, 3, 1, 21),
  (yX3_inWay, cX3_inWay, 8, (some .int), 3, 0, 3, 2, 42),
  (yX3_below, cX3_below, 5, (some .int), 3, 0, 3, 1, 21),
  (yX3_become, cX3_become, 3, none, 3, 0, 2, 3, 100),
  (yX3_weightOfAll, cX3_weightOfAll, 3, (some .int), 3, 0, 1, 1, 21),
  (yX3_restingPairs, cX3_restingPairs, 3, (some .int), 3, 0, 1, 2, 45),
  (yX4_init, cX4_init, 1, none, 4, 2, 1, 3, 100),
  (yX4_clear, cX4_clear, 1, none, 4, 0, 1, 0, 0),
  (yX4_add, cX4_add, 4, none, 4, 0, 3, 1, 21),
  (yX4_wrap, cX4_wrap, 4, none, 4, 0, 1, 1, 29),
  (yX4_nextRound, cX4_nextRound, 10, (some .int), 4, 0, 2, 0, 0),
  (yX4_holds, cX4_holds, 16, (some .int), 4, 0, 4, 0, 0),
  (yX5_init, cX5_init, 1, none, 5, 2, 1, 3, 100),
  (yX5_isMissing, cX5_isMissing, 1, (some .boolean), 5, 0, 1, 0, 0),
  (yX5_become, cX5_become, 3, none, 5, 0, 3, 1, 23),
  (yX5_holds, cX5_holds, 3, (some .boolean), 5, 0, 3, 0, 0),
  (yX6_init, cX6_init, 1, none, 6, 2, 1, 3, 100)]
def mTab_1 : List MRow := [(yX6_append, cX6_append, 2, none, 6, 0, 2, 0, 0),
  (yX6_read, cX6_read, 1, (some .int), 6, 0, 1, 9, 226),
  (yX6_readClause, cX6_readClause, 3, (some .boolean), 6, 0, 1, 8, 204),
  (yX6_step, cX6_step, 1, none, 6, 0, 1, 7, 184),
  (yX6_isLetter, cX6_isLetter, 1, (some .boolean), 6, 1, 1, 0, 0),
  (yX6_readWord, cX6_readWord, 1, none, 6, 0, 1, 6, 164),
  (yX6_isWord, cX6_isWord, 3, (some .boolean), 6, 0, 2, 5, 142),
  (yX6_isDigit, cX6_isDigit, 1, (some .boolean), 6, 1, 1, 0, 0),
  (yX6_readNumber, cX6_readNumber, 1, none, 6, 0, 1, 1, 20),
  (yX7_init, cX7_init, 2, none, 7, 2, 1, 7, 182),
  (yX7_box, cX7_box, 6, (some .int), 7, 0, 6, 5, 151),
  (yX7_isKind, cX7_isKind, 1, (some .boolean), 7, 1, 1, 0, 0),
  (yX7_isSize, cX7_isSize, 1, (some .boolean), 7, 1, 1, 1, 20),
  (yX7_isLength, cX7_isLength, 1, (some .boolean), 7, 1, 1, 0, 0),
  (yX7_isWeight, cX7_isWeight, 2, (some .boolean), 7, 1, 1, 0, 0),
  (yX7_isIn, cX7_isIn, 2, (some .boolean), 7, 1, 2, 0, 0),
  (yX7_of, cX7_of, 4, (some .int), 7, 0, 3, 2, 42),
  (yX7_kind, cX7_kind, 6, (some .int), 7, 0, 4, 2, 42),
  (yX7_weigh, cX7_weigh, 8, (some .int), 7, 0, 4, 2, 42),
  (yX7_taken, cX7_taken, 4, (some .int), 7, 0, 3, 2, 42),
  (yX7_off, cX7_off, 2, (some .int), 7, 0, 2, 5, 138),
  (yX7_on, cX7_on, 3, (some .int), 7, 0, 3, 2, 45),
  (yX7_contact, cX7_contact, 3, (some .int), 7, 0, 3, 3, 64),
  (yX7_isBoxAndOther, cX7_isBoxAndOther, 3, (some .boolean), 7, 0, 3, 2, 42),
  (yX7_load, cX7_load, 2, (some .int), 7, 0, 2, 5, 120),
  (yX7_settle, cX7_settle, 1, none, 7, 0, 1, 4, 100),
  (yX7_hands, cX7_hands, 3, (some .int), 7, 0, 3, 5, 120),
  (yX7_centre, cX7_centre, 6, (some .long), 7, 0, 4, 5, 120),
  (yX7_isAxis, cX7_isAxis, 1, (some .boolean), 7, 1, 1, 0, 0),
  (yX7_isPart, cX7_isPart, 1, (some .boolean), 7, 1, 1, 0, 0),
  (yX7_lowest, cX7_lowest, 12, (some .long), 7, 1, 3, 0, 0),
  (yX7_corner, cX7_corner, 5, (some .int), 7, 0, 4, 5, 120),
  (yX7_lies, cX7_lies, 2, (some .int), 7, 0, 2, 5, 120),
  (yX7_stands, cX7_stands, 2, (some .int), 7, 0, 2, 5, 120),
  (yX7_fails, cX7_fails, 8, (some .int), 7, 0, 2, 5, 120),
  (yX7_firstIn, cX7_firstIn, 2, (some .int), 7, 1, 1, 1, 21),
  (yX7_tilt, cX7_tilt, 3, (some .int), 7, 0, 3, 5, 120),
  (yX7_isSide, cX7_isSide, 1, (some .boolean), 7, 1, 1, 0, 0),
  (yX7_most, cX7_most, 3, (some .int), 7, 0, 2, 5, 120),
  (yX7_free, cX7_free, 1, (some .int), 7, 0, 1, 5, 138),
  (yX7_way, cX7_way, 2, (some .int), 7, 0, 2, 3, 69),
  (yX7_order, cX7_order, 3, (some .int), 7, 0, 2, 7, 184),
  (yX7_without, cX7_without, 2, (some .int), 7, 0, 2, 4, 113),
  (yX7_spot, cX7_spot, 7, (some .int), 7, 0, 4, 6, 174),
  (yX7_wouldStandAt, cX7_wouldStandAt, 4, (some .boolean), 7, 0, 4, 5, 151),
  (yX7_bumps, cX7_bumps, 3, (some .int), 7, 0, 3, 5, 139),
  (yX7_firstFailingBump, cX7_firstFailingBump, 7, (some .int), 7, 0, 3, 4, 113),
  (yX7_nextDrawn, cX7_nextDrawn, 1, (some .int), 7, 1, 1, 0, 0),
  (yX7_chance, cX7_chance, 7, (some .int), 7, 0, 5, 5, 139),
  (yX7_feed, cX7_feed, 7, (some .int), 7, 0, 7, 1, 21),
  (yX7_isByte, cX7_isByte, 1, (some .boolean), 7, 1, 1, 0, 0),
  (yX7_text, cX7_text, 6, (some .int), 7, 0, 1, 10, 246),
  (yX7_tells, cX7_tells, 8, (some .int), 7, 0, 3, 5, 145),
  (yX7_standingKinds, cX7_standingKinds, 4, (some .int), 7, 0, 2, 4, 122),
  (yX7_isSheet, cX7_isSheet, 1, (some .boolean), 7, 1, 1, 0, 0),
  (yX7_film, cX7_film, 4, (some .int), 7, 0, 2, 7, 184),
  (yX7_comes, cX7_comes, 12, (some .int), 7, 0, 5, 6, 176),
  (yX7_image, cX7_image, 1, (some .int), 7, 0, 1, 4, 122),
  (yX7_back, cX7_back, 1, (some .int), 7, 0, 1, 4, 122),
  (yX7_count, cX7_count, 2, (some .int), 7, 0, 2, 5, 120)]
def mTab_2 : List MRow := [(yX7_sheet, cX7_sheet, 4, (some .int), 7, 0, 4, 2, 45),
  (yX7_put, cX7_put, 5, (some .int), 7, 0, 4, 1, 20),
  (yX7_copy, cX7_copy, 8, (some .int), 7, 0, 6, 3, 100),
  (yX8_init, cX8_init, 2, none, 8, 2, 1, 3, 100),
  (yX8_box, cX8_box, 7, (some .int), 8, 0, 6, 4, 96),
  (yX8_isIn, cX8_isIn, 3, (some .boolean), 8, 1, 3, 0, 0),
  (yX8_isSize, cX8_isSize, 1, (some .boolean), 8, 1, 1, 1, 22),
  (yX8_lays, cX8_lays, 8, none, 8, 0, 7, 3, 69),
  (yX8_there, cX8_there, 1, (some .int), 8, 0, 1, 0, 0),
  (yX8_has, cX8_has, 2, (some .boolean), 8, 1, 2, 0, 0),
  (yX8_overlap, cX8_overlap, 3, (some .int), 8, 0, 3, 2, 47),
  (yX8_alongX, cX8_alongX, 3, (some .int), 8, 0, 3, 1, 25),
  (yX8_shared, cX8_shared, 6, (some .int), 8, 1, 4, 0, 0),
  (yX8_alongY, cX8_alongY, 3, (some .int), 8, 0, 3, 1, 25),
  (yX8_top, cX8_top, 2, (some .int), 8, 0, 2, 0, 0),
  (yX8_more, cX8_more, 2, (some .int), 8, 1, 2, 0, 0),
  (yX8_of, cX8_of, 3, (some .int), 8, 0, 3, 2, 43),
  (yX8_isBox, cX8_isBox, 2, (some .boolean), 8, 0, 2, 1, 22),
  (yX8_bearsBy, cX8_bearsBy, 3, (some .int), 8, 1, 2, 0, 0),
  (yX8_gripBy, cX8_gripBy, 2, (some .int), 8, 1, 2, 0, 0),
  (yX8_kind, cX8_kind, 5, (some .int), 8, 0, 4, 3, 64),
  (yX8_isThere, cX8_isThere, 2, (some .boolean), 8, 0, 2, 2, 43),
  (yX8_weigh, cX8_weigh, 7, (some .int), 8, 0, 4, 3, 64),
  (yX8_taken, cX8_taken, 3, (some .int), 8, 0, 3, 3, 64),
  (yX8_isUnder, cX8_isUnder, 2, (some .boolean), 8, 1, 2, 0, 0),
  (yX8_off, cX8_off, 2, (some .int), 8, 0, 2, 8, 193),
  (yX8_isFree, cX8_isFree, 3, (some .boolean), 8, 0, 3, 7, 171),
  (yX8_restingOn, cX8_restingOn, 5, (some .int), 8, 0, 3, 4, 91),
  (yX8_contactOf, cX8_contactOf, 3, (some .int), 8, 0, 3, 3, 69),
  (yX8_inWay, cX8_inWay, 5, (some .int), 8, 0, 3, 2, 47),
  (yX8_inHeight, cX8_inHeight, 3, (some .int), 8, 0, 3, 1, 25),
  (yX8_failing, cX8_failing, 5, (some .int), 8, 0, 4, 6, 147),
  (yX8_loadAll, cX8_loadAll, 4, none, 8, 0, 2, 5, 117),
  (yX8_handsDown, cX8_handsDown, 7, none, 8, 0, 3, 4, 91),
  (yX8_isHeld, cX8_isHeld, 5, (some .boolean), 8, 0, 3, 4, 91),
  (yX8_liesOf, cX8_liesOf, 13, (some .int), 8, 0, 5, 5, 115),
  (yX8_findPolygon, cX8_findPolygon, 5, none, 8, 0, 3, 4, 91),
  (yX8_rectangle, cX8_rectangle, 5, none, 8, 0, 5, 1, 23),
  (yX8_point, cX8_point, 4, none, 8, 0, 3, 0, 0),
  (yX8_less, cX8_less, 2, (some .int), 8, 1, 2, 0, 0),
  (yX8_turns, cX8_turns, 4, none, 8, 0, 4, 1, 24),
  (yX8_cross, cX8_cross, 5, (some .int), 8, 0, 5, 0, 0),
  (yX8_centreOf, cX8_centreOf, 12, (some .int), 8, 0, 4, 1, 21),
  (yX8_liesAt, cX8_liesAt, 12, (some .int), 8, 0, 4, 1, 27),
  (yX8_cut, cX8_cut, 8, (some .long), 8, 1, 4, 0, 0),
  (yX8_bits, cX8_bits, 3, (some .int), 8, 1, 1, 0, 0),
  (yX8_on, cX8_on, 3, (some .int), 8, 0, 3, 5, 115),
  (yX8_below, cX8_below, 4, (some .int), 8, 0, 2, 4, 91),
  (yX8_contact, cX8_contact, 3, (some .int), 8, 0, 3, 4, 91),
  (yX8_load, cX8_load, 2, (some .int), 8, 0, 2, 6, 140),
  (yX8_hands, cX8_hands, 3, (some .int), 8, 0, 3, 6, 140),
  (yX8_centre, cX8_centre, 4, (some .long), 8, 0, 4, 6, 140),
  (yX8_partOf, cX8_partOf, 5, (some .long), 8, 1, 3, 1, 29),
  (yX8_common, cX8_common, 10, (some .long), 8, 1, 2, 0, 0),
  (yX8_corner, cX8_corner, 4, (some .int), 8, 0, 4, 5, 115),
  (yX8_lies, cX8_lies, 2, (some .int), 8, 0, 2, 6, 147),
  (yX8_stands, cX8_stands, 3, (some .int), 8, 0, 2, 7, 171),
  (yX8_fails, cX8_fails, 6, (some .int), 8, 0, 2, 7, 171),
  (yX8_firstOf, cX8_firstOf, 2, (some .int), 8, 1, 1, 1, 21),
  (yX8_causeOf, cX8_causeOf, 4, (some .int), 8, 0, 2, 5, 115)]
def mTab_3 : List MRow := [(yX8_tilt, cX8_tilt, 3, (some .int), 8, 0, 3, 7, 171),
  (yX8_most, cX8_most, 3, (some .int), 8, 0, 2, 7, 171),
  (yX8_free, cX8_free, 3, (some .int), 8, 0, 1, 8, 193),
  (yX8_way, cX8_way, 2, (some .int), 8, 0, 2, 3, 71),
  (yX8_order, cX8_order, 2, (some .int), 8, 0, 2, 10, 238),
  (yX8_findLine, cX8_findLine, 3, none, 8, 0, 1, 9, 216),
  (yX8_findWays, cX8_findWays, 4, none, 8, 0, 1, 8, 193),
  (yX8_without, cX8_without, 2, (some .int), 8, 0, 2, 7, 171),
  (yX8_spot, cX8_spot, 7, (some .int), 8, 0, 4, 8, 197),
  (yX8_canCome, cX8_canCome, 7, (some .boolean), 8, 0, 5, 7, 171),
  (yX8_bumps, cX8_bumps, 3, (some .int), 8, 0, 3, 8, 196),
  (yX8_bumped, cX8_bumped, 6, (some .int), 8, 0, 3, 7, 171),
  (yX8_chance, cX8_chance, 7, (some .int), 8, 0, 5, 8, 196),
  (yX8_feed, cX8_feed, 8, (some .int), 8, 0, 7, 1, 22),
  (yX8_text, cX8_text, 2, (some .int), 8, 0, 1, 11, 259),
  (yX8_reads, cX8_reads, 5, (some .int), 8, 0, 2, 10, 235),
  (yX8_clause, cX8_clause, 4, (some .int), 8, 0, 1, 3, 65),
  (yX8_token, cX8_token, 2, (some .int), 8, 0, 1, 2, 44),
  (yX8_isSort, cX8_isSort, 3, (some .boolean), 8, 0, 3, 1, 22),
  (yX8_wordOf, cX8_wordOf, 4, (some .int), 8, 0, 1, 0, 0),
  (yX8_isDone, cX8_isDone, 2, (some .boolean), 8, 0, 2, 9, 214),
  (yX8_tells, cX8_tells, 3, (some .int), 8, 0, 3, 9, 216),
  (yX8_kindsOf, cX8_kindsOf, 5, (some .int), 8, 0, 2, 7, 171),
  (yX8_isSheet, cX8_isSheet, 1, (some .boolean), 8, 1, 1, 1, 22),
  (yX8_judges, cX8_judges, 4, none, 8, 0, 2, 8, 193),
  (yX8_film, cX8_film, 3, (some .int), 8, 0, 2, 10, 238),
  (yX8_comes, cX8_comes, 10, (some .int), 8, 0, 5, 5, 122),
  (yX8_image, cX8_image, 2, (some .int), 8, 0, 1, 0, 0),
  (yX8_back, cX8_back, 2, (some .int), 8, 0, 1, 0, 0),
  (yX8_count, cX8_count, 2, (some .int), 8, 0, 2, 7, 162),
  (yX8_weights, cX8_weights, 3, (some .int), 8, 0, 1, 1, 21),
  (yX8_twos, cX8_twos, 3, (some .int), 8, 0, 1, 5, 114),
  (yX8_toFloor, cX8_toFloor, 3, (some .int), 8, 0, 1, 6, 140),
  (yX8_sheet, cX8_sheet, 5, (some .int), 8, 0, 4, 2, 42),
  (yX8_put, cX8_put, 4, (some .int), 8, 0, 4, 2, 42),
  (yX8_copy, cX8_copy, 7, (some .int), 8, 0, 6, 2, 42),
  (yJ7_fill_53178, cJ7_fill_53178, 4, none, 9, 1, 2, 0, 0),
  (yJ6_bitCount_0f7a4, cJ6_bitCount_0f7a4, 1, (some .int), 10, 1, 1, 0, 0),
  (yJ0_length_8abf5, cJ0_length_8abf5, 1, (some .int), 12, 0, 1, 1, 20),
  (yJ0_coder_7d493, cJ0_coder_7d493, 1, (some .byte), 12, 0, 1, 0, 0),
  (yJ0_charAt_5068e, cJ0_charAt_5068e, 2, (some .char), 12, 0, 2, 4, 121),
  (yJ0_isLatin1_aae02, cJ0_isLatin1_aae02, 1, (some .boolean), 12, 0, 1, 0, 0),
  (yJ1_charAt_3b067, cJ1_charAt_3b067, 2, (some .char), 13, 1, 2, 3, 100),
  (yL_law, cL_law, 4, (some .boolean), 14, 0, 2, 14, 568)]
def mTab : List MRow := mTab_0 ++ (mTab_1 ++ (mTab_2 ++ (mTab_3)))
def mRow (i : Nat) : MRow := mTab.getD i (objectInit, ⟨#[]⟩, 0, none, 99, 99, 0, 0, 0)
def mY (i : Nat) : MethodName := (mRow i).1
def mC (i : Nat) : ByteArray := (mRow i).2.1
def mL (i : Nat) : Nat := (mRow i).2.2.1
def mR (i : Nat) : Option FieldType := (mRow i).2.2.2.1
def mO (i : Nat) : Nat := (mRow i).2.2.2.2.1
def mK (i : Nat) : Nat := (mRow i).2.2.2.2.2.1
def mN (i : Nat) : Nat := (mRow i).2.2.2.2.2.2.1
def mF (i : Nat) : Nat := (mRow i).2.2.2.2.2.2.2.1
def mW (i : Nat) : Nat := (mRow i).2.2.2.2.2.2.2.2
abbrev m_Ba_init : Nat := 0
abbrev m_Ba_settle : Nat := 1
abbrev m_Ba_handDown : Nat := 2
abbrev m_Ba_heft : Nat := 3
abbrev m_Ba_takeOn : Nat := 4
abbrev m_Ba_outline : Nat := 5
abbrev m_Ba_failing : Nat := 6
abbrev m_Ba_why : Nat := 7
abbrev m_Ba_placed : Nat := 8
abbrev m_Ba_toFloor : Nat := 9
abbrev m_Ba_whoFailsBy : Nat := 10
abbrev m_Ba_heaviestOn : Nat := 11
abbrev m_Ba_allToFloor : Nat := 12
abbrev m_Bo_init : Nat := 13
abbrev m_Bo_areaWith : Nat := 14
abbrev m_Bo_right : Nat := 15
abbrev m_Bo_left : Nat := 16
abbrev m_Bo_far : Nat := 17
abbrev m_Bo_near : Nat := 18
abbrev m_Bo_top : Nat := 19
abbrev m_Bo_size : Nat := 20
abbrev m_Bo_bears : Nat := 21
abbrev m_Bo_grip : Nat := 22
abbrev m_Bo_isOfKind : Nat := 23
abbrev m_Bo_meetsAlongY : Nat := 24
abbrev m_Bo_meetsInHeight : Nat := 25
abbrev m_Bo_ownCentreX : Nat := 26
abbrev m_Bo_ownCentreY : Nat := 27
abbrev m_Bo_isOnFloor : Nat := 28
abbrev m_Bo_floorContact : Nat := 29
abbrev m_Bo_become : Nat := 30
abbrev m_Do_init : Nat := 31
abbrev m_Do_begin : Nat := 32
abbrev m_Do_freeIn : Nat := 33
abbrev m_Do_findOrders : Nat := 34
abbrev m_Do_findFree : Nat := 35
abbrev m_Do_findFirst : Nat := 36
abbrev m_Pi_init : Nat := 37
abbrev m_Pi_receive : Nat := 38
abbrev m_Pi_greatestTopUnder : Nat := 39
abbrev m_Pi_noteContacts : Nat := 40
abbrev m_Pi_knows : Nat := 41
abbrev m_Pi_has : Nat := 42
abbrev m_Pi_above : Nat := 43
abbrev m_Pi_inWay : Nat := 44
abbrev m_Pi_below : Nat := 45
abbrev m_Pi_become : Nat := 46
abbrev m_Pi_weightOfAll : Nat := 47
abbrev m_Pi_restingPairs : Nat := 48
abbrev m_Po_init : Nat := 49
abbrev m_Po_clear : Nat := 50
abbrev m_Po_add : Nat := 51
abbrev m_Po_wrap : Nat := 52
abbrev m_Po_nextRound : Nat := 53
abbrev m_Po_holds : Nat := 54
abbrev m_Sh_init : Nat := 55
abbrev m_Sh_isMissing : Nat := 56
abbrev m_Sh_become : Nat := 57
abbrev m_Sh_holds : Nat := 58
abbrev m_Ta_init : Nat := 59
abbrev m_Ta_append : Nat := 60
abbrev m_Ta_read : Nat := 61
abbrev m_Ta_readClause : Nat := 62
abbrev m_Ta_step : Nat := 63
abbrev m_Ta_isLetter : Nat := 64
abbrev m_Ta_readWord : Nat := 65
abbrev m_Ta_isWord : Nat := 66
abbrev m_Ta_isDigit : Nat := 67
abbrev m_Ta_readNumber : Nat := 68
abbrev m_PS_init : Nat := 69
abbrev m_PS_box : Nat := 70
abbrev m_PS_isKind : Nat := 71
abbrev m_PS_isSize : Nat := 72
abbrev m_PS_isLength : Nat := 73
abbrev m_PS_isWeight : Nat := 74
abbrev m_PS_isIn : Nat := 75
abbrev m_PS_of : Nat := 76
abbrev m_PS_kind : Nat := 77
abbrev m_PS_weigh : Nat := 78
abbrev m_PS_taken : Nat := 79
abbrev m_PS_off : Nat := 80
abbrev m_PS_on : Nat := 81
abbrev m_PS_contact : Nat := 82
abbrev m_PS_isBoxAndOther : Nat := 83
abbrev m_PS_load : Nat := 84
abbrev m_PS_settle : Nat := 85
abbrev m_PS_hands : Nat := 86
abbrev m_PS_centre : Nat := 87
abbrev m_PS_isAxis : Nat := 88
abbrev m_PS_isPart : Nat := 89
abbrev m_PS_lowest : Nat := 90
abbrev m_PS_corner : Nat := 91
abbrev m_PS_lies : Nat := 92
abbrev m_PS_stands : Nat := 93
abbrev m_PS_fails : Nat := 94
abbrev m_PS_firstIn : Nat := 95
abbrev m_PS_tilt : Nat := 96
abbrev m_PS_isSide : Nat := 97
abbrev m_PS_most : Nat := 98
abbrev m_PS_free : Nat := 99
abbrev m_PS_way : Nat := 100
abbrev m_PS_order : Nat := 101
abbrev m_PS_without : Nat := 102
abbrev m_PS_spot : Nat := 103
abbrev m_PS_wouldStandAt : Nat := 104
abbrev m_PS_bumps : Nat := 105
abbrev m_PS_firstFailingBump : Nat := 106
abbrev m_PS_nextDrawn : Nat := 107
abbrev m_PS_chance : Nat := 108
abbrev m_PS_feed : Nat := 109
abbrev m_PS_isByte : Nat := 110
abbrev m_PS_text : Nat := 111
abbrev m_PS_tells : Nat := 112
abbrev m_PS_standingKinds : Nat := 113
abbrev m_PS_isSheet : Nat := 114
abbrev m_PS_film : Nat := 115
abbrev m_PS_comes : Nat := 116
abbrev m_PS_image : Nat := 117
abbrev m_PS_back : Nat := 118
abbrev m_PS_count : Nat := 119
abbrev m_PS_sheet : Nat := 120
abbrev m_PS_put : Nat := 121
abbrev m_PS_copy : Nat := 122
abbrev m_Mo_init : Nat := 123
abbrev m_Mo_box : Nat := 124
abbrev m_Mo_isIn : Nat := 125
abbrev m_Mo_isSize : Nat := 126
abbrev m_Mo_lays : Nat := 127
abbrev m_Mo_there : Nat := 128
abbrev m_Mo_has : Nat := 129
abbrev m_Mo_overlap : Nat := 130
abbrev m_Mo_alongX : Nat := 131
abbrev m_Mo_shared : Nat := 132
abbrev m_Mo_alongY : Nat := 133
abbrev m_Mo_top : Nat := 134
abbrev m_Mo_more : Nat := 135
abbrev m_Mo_of : Nat := 136
abbrev m_Mo_isBox : Nat := 137
abbrev m_Mo_bearsBy : Nat := 138
abbrev m_Mo_gripBy : Nat := 139
abbrev m_Mo_kind : Nat := 140
abbrev m_Mo_isThere : Nat := 141
abbrev m_Mo_weigh : Nat := 142
abbrev m_Mo_taken : Nat := 143
abbrev m_Mo_isUnder : Nat := 144
abbrev m_Mo_off : Nat := 145
abbrev m_Mo_isFree : Nat := 146
abbrev m_Mo_restingOn : Nat := 147
abbrev m_Mo_contactOf : Nat := 148
abbrev m_Mo_inWay : Nat := 149
abbrev m_Mo_inHeight : Nat := 150
abbrev m_Mo_failing : Nat := 151
abbrev m_Mo_loadAll : Nat := 152
abbrev m_Mo_handsDown : Nat := 153
abbrev m_Mo_isHeld : Nat := 154
abbrev m_Mo_liesOf : Nat := 155
abbrev m_Mo_findPolygon : Nat := 156
abbrev m_Mo_rectangle : Nat := 157
abbrev m_Mo_point : Nat := 158
abbrev m_Mo_less : Nat := 159
abbrev m_Mo_turns : Nat := 160
abbrev m_Mo_cross : Nat := 161
abbrev m_Mo_centreOf : Nat := 162
abbrev m_Mo_liesAt : Nat := 163
abbrev m_Mo_cut : Nat := 164
abbrev m_Mo_bits : Nat := 165
abbrev m_Mo_on : Nat := 166
abbrev m_Mo_below : Nat := 167
abbrev m_Mo_contact : Nat := 168
abbrev m_Mo_load : Nat := 169
abbrev m_Mo_hands : Nat := 170
abbrev m_Mo_centre : Nat := 171
abbrev m_Mo_partOf : Nat := 172
abbrev m_Mo_common : Nat := 173
abbrev m_Mo_corner : Nat := 174
abbrev m_Mo_lies : Nat := 175
abbrev m_Mo_stands : Nat := 176
abbrev m_Mo_fails : Nat := 177
abbrev m_Mo_firstOf : Nat := 178
abbrev m_Mo_causeOf : Nat := 179
abbrev m_Mo_tilt : Nat := 180
abbrev m_Mo_most : Nat := 181
abbrev m_Mo_free : Nat := 182
abbrev m_Mo_way : Nat := 183
abbrev m_Mo_order : Nat := 184
abbrev m_Mo_findLine : Nat := 185
abbrev m_Mo_findWays : Nat := 186
abbrev m_Mo_without : Nat := 187
abbrev m_Mo_spot : Nat := 188
abbrev m_Mo_canCome : Nat := 189
abbrev m_Mo_bumps : Nat := 190
abbrev m_Mo_bumped : Nat := 191
abbrev m_Mo_chance : Nat := 192
abbrev m_Mo_feed : Nat := 193
abbrev m_Mo_text : Nat := 194
abbrev m_Mo_reads : Nat := 195
abbrev m_Mo_clause : Nat := 196
abbrev m_Mo_token : Nat := 197
abbrev m_Mo_isSort : Nat := 198
abbrev m_Mo_wordOf : Nat := 199
abbrev m_Mo_isDone : Nat := 200
abbrev m_Mo_tells : Nat := 201
abbrev m_Mo_kindsOf : Nat := 202
abbrev m_Mo_isSheet : Nat := 203
abbrev m_Mo_judges : Nat := 204
abbrev m_Mo_film : Nat := 205
abbrev m_Mo_comes : Nat := 206
abbrev m_Mo_image : Nat := 207
abbrev m_Mo_back : Nat := 208
abbrev m_Mo_count : Nat := 209
abbrev m_Mo_weights : Nat := 210
abbrev m_Mo_twos : Nat := 211
abbrev m_Mo_toFloor : Nat := 212
abbrev m_Mo_sheet : Nat := 213
abbrev m_Mo_put : Nat := 214
abbrev m_Mo_copy : Nat := 215
abbrev m_Ar_fill : Nat := 216
abbrev m_In_bitCount : Nat := 217
abbrev m_St_length : Nat := 218
abbrev m_St_coder : Nat := 219
abbrev m_St_charAt : Nat := 220
abbrev m_St_isLatin1 : Nat := 221
abbrev m_SL_charAt : Nat := 222
abbrev m_Law_law : Nat := 223
def nMeth : Nat := 223
def oTab : List String := [RX0, RX1, RX2, RX3, RX4, RX5, RX6, RX7, RX8, RJ7, RJ6, RJ9, RJ0, RJ1, RL]
def oN (i : Nat) : String := oTab.getD i ""
/-- whose code, entry of its pool, class of the field, its place there, 1: of a nest mate; the place of the word -/
def fldL : List (Nat × Nat × Nat × Nat × Nat × Nat) := [(0, 9, 0, 0, 0, 207), (0, 17, 0, 1, 0, 209), (0, 20, 0, 2, 0, 211), (0, 24, 0, 3, 0, 213), (0, 29, 0, 4, 0, 215), (0, 36, 0, 5, 0, 217),
  (0, 40, 0, 6, 0, 218), (0, 45, 3, 0, 1, 148), (0, 55, 1, 8, 1, 123), (0, 78, 3, 1, 1, 151), (0, 125, 1, 7, 1, 122), (0, 136, 4, 5, 1, 191),
  (1, 9, 1, 0, 0, 101), (1, 15, 1, 1, 0, 104), (1, 18, 1, 2, 0, 107), (1, 21, 1, 3, 0, 110), (1, 24, 1, 4, 0, 113), (1, 27, 1, 5, 0, 116),
  (1, 30, 1, 6, 0, 118), (1, 33, 1, 7, 0, 120), (1, 36, 1, 8, 0, 124), (2, 12, 2, 0, 0, 242), (2, 18, 2, 1, 0, 243), (2, 22, 2, 2, 0, 244),
  (2, 25, 2, 3, 0, 245), (2, 28, 2, 4, 0, 246), (2, 63, 3, 3, 1, 156), (3, 11, 3, 0, 0, 147), (3, 19, 3, 1, 0, 150), (3, 22, 3, 2, 0, 153),
  (3, 26, 3, 3, 0, 155), (3, 58, 1, 0, 1, 103), (3, 61, 1, 1, 1, 106), (3, 64, 1, 2, 1, 109), (3, 67, 1, 3, 1, 112), (3, 70, 1, 5, 1, 117),
  (3, 73, 1, 6, 1, 119), (3, 76, 1, 7, 1, 121), (3, 79, 1, 8, 1, 126), (3, 86, 1, 4, 1, 115), (4, 9, 4, 0, 0, 183), (4, 15, 4, 1, 0, 184),
  (4, 18, 4, 2, 0, 185), (4, 21, 4, 3, 0, 187), (4, 24, 4, 4, 0, 189), (4, 28, 4, 5, 0, 190), (5, 9, 5, 0, 0, 305), (5, 15, 5, 1, 0, 307),
  (5, 19, 5, 2, 0, 309), (6, 9, 6, 0, 0, 266), (6, 15, 6, 1, 0, 267), (6, 19, 6, 2, 0, 269), (6, 24, 6, 3, 0, 271), (6, 27, 6, 4, 0, 273),
  (6, 30, 6, 5, 0, 275), (6, 33, 6, 6, 0, 276), (6, 36, 6, 7, 0, 277), (6, 39, 6, 8, 0, 278), (7, 14, 7, 0, 0, 318), (7, 18, 7, 1, 0, 319),
  (7, 21, 7, 2, 0, 320), (7, 27, 7, 3, 0, 321), (7, 34, 7, 4, 0, 322), (7, 41, 7, 5, 0, 323), (7, 47, 7, 6, 0, 324), (7, 51, 7, 7, 0, 325),
  (7, 64, 3, 0, 1, 149), (7, 68, 1, 0, 1, 102), (7, 74, 1, 1, 1, 105), (7, 77, 1, 2, 1, 108), (7, 80, 1, 3, 1, 111), (7, 83, 1, 4, 1, 114),
  (7, 90, 1, 8, 1, 125), (7, 115, 3, 3, 1, 157), (7, 142, 3, 1, 1, 152), (7, 149, 0, 0, 1, 208), (7, 156, 0, 1, 1, 210), (7, 167, 0, 2, 1, 212),
  (7, 171, 0, 3, 1, 214), (7, 183, 0, 4, 1, 216), (7, 187, 4, 5, 1, 192), (7, 192, 4, 2, 1, 186), (7, 195, 4, 3, 1, 188), (7, 227, 2, 4, 1, 247),
  (7, 236, 3, 2, 1, 154), (7, 249, 6, 1, 1, 268), (7, 258, 6, 4, 1, 274), (7, 261, 6, 3, 1, 272), (7, 264, 6, 2, 1, 270), (7, 288, 5, 2, 1, 310),
  (7, 289, 5, 0, 1, 306), (7, 296, 5, 1, 1, 308), (8, 9, 8, 0, 0, 914), (8, 15, 8, 1, 0, 915), (8, 18, 8, 3, 0, 917), (8, 21, 8, 4, 0, 918),
  (8, 24, 8, 5, 0, 919), (8, 27, 8, 6, 0, 920), (8, 30, 8, 7, 0, 921), (8, 33, 8, 8, 0, 922), (8, 36, 8, 15, 0, 929), (8, 39, 8, 16, 0, 930),
  (8, 42, 8, 18, 0, 932), (8, 45, 8, 19, 0, 933), (8, 48, 8, 20, 0, 934), (8, 51, 8, 21, 0, 935), (8, 55, 8, 26, 0, 940), (8, 58, 8, 27, 0, 941),
  (8, 61, 8, 28, 0, 942), (8, 64, 8, 31, 0, 945), (8, 108, 8, 9, 0, 923), (8, 115, 8, 10, 0, 924), (8, 160, 8, 11, 0, 925), (8, 163, 8, 12, 0, 926),
  (8, 166, 8, 13, 0, 927), (8, 169, 8, 14, 0, 928), (8, 241, 8, 17, 0, 931), (8, 255, 8, 22, 0, 936), (8, 258, 8, 25, 0, 939), (8, 261, 8, 23, 0, 937),
  (8, 264, 8, 24, 0, 938), (8, 299, 8, 29, 0, 943), (8, 302, 8, 30, 0, 944), (8, 316, 8, 2, 0, 916)]
def mthL : List (Nat × Nat × Nat × Nat × Nat) := [(0, 35, 37, 0, 177), (0, 44, 49, 1, 179), (0, 49, 216, 0, 484), (0, 60, 26, 0, 485), (0, 64, 27, 0, 489), (0, 67, 75, 1, 493),
  (0, 71, 2, 0, 494), (0, 75, 5, 0, 515), (0, 81, 45, 0, 498), (0, 85, 3, 0, 502), (0, 89, 4, 0, 506), (0, 95, 16, 0, 511),
  (0, 99, 15, 0, 512), (0, 102, 18, 0, 513), (0, 105, 17, 0, 514), (0, 108, 50, 0, 519), (0, 111, 28, 0, 523), (0, 115, 51, 0, 527),
  (0, 119, 52, 0, 535), (0, 122, 9, 0, 890), (0, 132, 54, 0, 558), (0, 139, 21, 0, 551), (0, 142, 8, 0, 552), (0, 146, 22, 0, 562),
  (0, 149, 7, 0, 547), (0, 152, 43, 0, 651), (1, 39, 18, 0, 387), (1, 43, 17, 0, 383), (1, 46, 19, 0, 479), (1, 50, 15, 0, 375),
  (1, 53, 16, 0, 379), (1, 56, 28, 0, 587), (2, 11, 0, 0, 241), (2, 31, 216, 0, 455), (2, 37, 75, 1, 462), (2, 41, 43, 0, 463),
  (2, 47, 44, 0, 467), (2, 50, 1, 0, 480), (2, 54, 6, 0, 543), (2, 56, 32, 0, 681), (2, 59, 35, 0, 682), (2, 67, 36, 0, 687),
  (2, 71, 33, 0, 686), (3, 29, 13, 1, 97), (3, 30, 30, 0, 708), (3, 40, 41, 0, 418), (3, 44, 75, 1, 368), (3, 48, 71, 1, 351),
  (3, 51, 72, 1, 354), (3, 54, 74, 1, 360), (3, 82, 39, 0, 364), (3, 89, 19, 0, 391), (3, 93, 40, 0, 398), (3, 97, 14, 0, 371),
  (3, 106, 24, 0, 471), (3, 110, 25, 0, 475), (3, 113, 45, 0, 884), (3, 116, 217, 0, 885), (4, 31, 16, 0, 531), (4, 37, 15, 0, 532),
  (4, 40, 18, 0, 533), (4, 43, 17, 0, 534), (4, 46, 53, 0, 539), (5, 22, 216, 0, 858), (6, 42, 62, 0, 750), (6, 46, 63, 0, 754),
  (6, 52, 64, 0, 758), (6, 56, 65, 0, 761), (6, 59, 67, 0, 821), (6, 62, 68, 0, 824), (6, 67, 66, 0, 766), (6, 77, 218, 0, 770),
  (6, 83, 220, 0, 780), (7, 13, 37, 0, 88), (7, 26, 0, 0, 169), (7, 33, 31, 1, 236), (7, 40, 59, 1, 261), (7, 55, 55, 1, 301),
  (7, 56, 38, 0, 347), (7, 60, 41, 0, 406), (7, 86, 20, 0, 410), (7, 93, 42, 0, 414), (7, 96, 21, 0, 419), (7, 99, 22, 0, 423),
  (7, 102, 71, 0, 431), (7, 105, 74, 0, 436), (7, 109, 23, 0, 441), (7, 112, 32, 0, 451), (7, 118, 33, 0, 458), (7, 122, 217, 0, 563),
  (7, 128, 45, 0, 573), (7, 132, 43, 0, 574), (7, 135, 83, 0, 579), (7, 139, 29, 0, 583), (7, 146, 85, 0, 592), (7, 153, 9, 0, 601),
  (7, 159, 88, 0, 609), (7, 162, 89, 0, 612), (7, 176, 3, 0, 617), (7, 179, 90, 0, 618), (7, 198, 8, 0, 629), (7, 202, 10, 0, 634),
  (7, 205, 6, 0, 642), (7, 208, 95, 0, 643), (7, 211, 11, 0, 647), (7, 214, 7, 0, 652), (7, 217, 97, 0, 657), (7, 220, 44, 0, 672),
  (7, 223, 34, 0, 677), (7, 230, 1, 0, 596), (7, 233, 72, 0, 699), (7, 239, 104, 0, 700), (7, 243, 106, 0, 719), (7, 246, 110, 0, 735),
  (7, 251, 60, 0, 738), (7, 255, 61, 0, 746), (7, 267, 70, 0, 830), (7, 270, 77, 0, 831), (7, 272, 78, 0, 832), (7, 275, 80, 0, 833),
  (7, 278, 113, 0, 839), (7, 281, 114, 0, 843), (7, 284, 56, 0, 846), (7, 292, 57, 0, 854), (7, 301, 46, 0, 704), (7, 304, 47, 0, 876),
  (7, 307, 48, 0, 880), (7, 310, 12, 0, 886), (7, 313, 58, 0, 903), (7, 324, 73, 0, 357), (7, 327, 107, 0, 723), (7, 331, 75, 0, 646),
  (8, 67, 125, 0, 1016), (8, 71, 137, 0, 1059), (8, 75, 128, 0, 1026), (8, 79, 129, 0, 1030), (8, 83, 132, 0, 1041), (8, 87, 134, 0, 1048),
  (8, 91, 131, 0, 1037), (8, 95, 133, 0, 1044), (8, 98, 130, 0, 1033), (8, 101, 148, 0, 1101), (8, 104, 153, 0, 1121), (8, 112, 158, 0, 1141),
  (8, 118, 161, 0, 1152), (8, 121, 157, 0, 1137), (8, 125, 135, 0, 1052), (8, 128, 159, 0, 1145), (8, 131, 160, 0, 1148), (8, 135, 164, 0, 1167),
  (8, 139, 156, 0, 1133), (8, 144, 162, 0, 1157), (8, 152, 163, 0, 1163), (8, 156, 152, 0, 1117), (8, 172, 154, 0, 1125), (8, 175, 138, 0, 1063),
  (8, 178, 155, 0, 1129), (8, 181, 139, 0, 1066), (8, 184, 150, 0, 1109), (8, 187, 147, 0, 1097), (8, 190, 149, 0, 1105), (8, 193, 151, 0, 1113),
  (8, 196, 126, 0, 1019), (8, 199, 127, 0, 1022), (8, 203, 141, 0, 1073), (8, 208, 144, 0, 1086), (8, 211, 146, 0, 1093), (8, 214, 165, 0, 1170),
  (8, 217, 167, 0, 1177), (8, 220, 173, 0, 1202), (8, 228, 172, 0, 1199), (8, 232, 178, 0, 1221), (8, 235, 179, 0, 1224), (8, 238, 186, 0, 1252),
  (8, 244, 185, 0, 1248), (8, 247, 189, 0, 1264), (8, 252, 191, 0, 1272), (8, 267, 198, 0, 1301), (8, 270, 197, 0, 1297), (8, 273, 199, 0, 1305),
  (8, 276, 124, 0, 1313), (8, 280, 140, 0, 1314), (8, 283, 142, 0, 1315), (8, 286, 145, 0, 1316), (8, 289, 196, 0, 1293), (8, 292, 200, 0, 1309),
  (8, 295, 195, 0, 1289), (8, 305, 202, 0, 1321), (8, 308, 203, 0, 1325), (8, 311, 204, 0, 1328), (8, 320, 210, 0, 1353), (8, 323, 211, 0, 1357),
  (8, 326, 212, 0, 1361), (12, 335, 219, 0, 774), (12, 492, 221, 0, 784), (12, 495, 222, 0, 788), (14, 9, 69, 0, 80), (14, 12, 123, 0, 910),
  (14, 13, 70, 0, 343), (14, 17, 124, 0, 1012), (14, 18, 76, 0, 402), (14, 22, 136, 0, 1055), (14, 23, 77, 0, 427), (14, 27, 140, 0, 1069),
  (14, 28, 78, 0, 432), (14, 31, 142, 0, 1077), (14, 32, 79, 0, 437), (14, 35, 143, 0, 1082), (14, 36, 80, 0, 447), (14, 40, 145, 0, 1089),
  (14, 41, 81, 0, 569), (14, 44, 166, 0, 1173), (14, 45, 82, 0, 575), (14, 48, 168, 0, 1181), (14, 49, 84, 0, 588), (14, 52, 169, 0, 1185),
  (14, 53, 86, 0, 597), (14, 56, 170, 0, 1189), (14, 57, 87, 0, 605), (14, 61, 171, 0, 1193), (14, 62, 91, 0, 621), (14, 65, 174, 0, 1205),
  (14, 66, 92, 0, 625), (14, 69, 175, 0, 1209), (14, 70, 93, 0, 630), (14, 73, 176, 0, 1213), (14, 74, 94, 0, 638), (14, 77, 177, 0, 1217),
  (14, 78, 96, 0, 653), (14, 81, 180, 0, 1228), (14, 82, 98, 0, 660), (14, 85, 181, 0, 1232), (14, 86, 99, 0, 664), (14, 90, 182, 0, 1236),
  (14, 91, 100, 0, 668), (14, 94, 183, 0, 1240), (14, 95, 101, 0, 673), (14, 98, 184, 0, 1244), (14, 99, 102, 0, 691), (14, 102, 187, 0, 1256),
  (14, 103, 103, 0, 695), (14, 106, 188, 0, 1260), (14, 107, 105, 0, 715), (14, 110, 190, 0, 1268), (14, 111, 108, 0, 727), (14, 115, 192, 0, 1277),
  (14, 116, 109, 0, 731), (14, 120, 193, 0, 1281), (14, 121, 111, 0, 742), (14, 124, 194, 0, 1285), (14, 125, 112, 0, 835), (14, 128, 201, 0, 1317),
  (14, 129, 115, 0, 850), (14, 132, 205, 0, 1332), (14, 133, 116, 0, 859), (14, 136, 206, 0, 1336), (14, 137, 117, 0, 864), (14, 140, 207, 0, 1341),
  (14, 141, 118, 0, 868), (14, 144, 208, 0, 1345), (14, 145, 119, 0, 872), (14, 148, 209, 0, 1349), (14, 149, 120, 0, 891), (14, 152, 213, 0, 1365),
  (14, 153, 121, 0, 895), (14, 156, 214, 0, 1369), (14, 157, 122, 0, 899), (14, 160, 215, 0, 1373)]
/-- places of a method's words: its code, instance or static, selects, initialized -/
def wTab : List (Nat × Nat × Nat × Nat) := [(171, 170, 0, 64), (483, 481, 482, 64), (497, 496, 2, 64), (505, 503, 504, 64), (509, 508, 3, 64), (518, 517, 4, 64), (546, 544, 545, 64), (550, 548, 549, 64),
  (555, 553, 554, 64), (604, 602, 603, 64), (637, 635, 636, 64), (650, 648, 649, 64), (889, 887, 888, 64), (99, 98, 0, 63), (374, 372, 373, 63), (378, 376, 377, 63),
  (382, 380, 381, 63), (386, 384, 385, 63), (390, 388, 389, 63), (394, 392, 393, 63), (413, 411, 412, 63), (422, 420, 421, 63), (426, 424, 425, 63), (444, 442, 443, 63),
  (474, 472, 473, 63), (478, 476, 477, 63), (488, 486, 487, 63), (492, 490, 491, 63), (526, 524, 525, 63), (586, 584, 585, 63), (711, 709, 710, 63), (238, 237, 0, 66),
  (454, 452, 453, 66), (461, 459, 460, 66), (680, 678, 679, 66), (685, 684, 8, 66), (690, 689, 9, 66), (90, 89, 0, 62), (350, 348, 349, 62), (367, 366, 0, 62),
  (401, 400, 1, 62), (409, 407, 408, 62), (417, 415, 416, 62), (466, 464, 465, 62), (470, 468, 469, 62), (501, 499, 500, 62), (707, 705, 706, 62), (879, 877, 878, 62),
  (883, 881, 882, 62), (181, 180, 0, 65), (522, 520, 521, 65), (530, 528, 529, 65), (538, 536, 537, 65), (542, 541, 5, 65), (561, 559, 560, 65), (303, 302, 0, 68),
  (849, 847, 848, 68), (857, 855, 856, 68), (906, 904, 905, 68), (263, 262, 0, 67), (741, 739, 740, 67), (749, 747, 748, 67), (753, 752, 12, 67), (757, 756, 13, 67),
  (760, 759, 0, 67), (764, 763, 14, 67), (769, 768, 15, 67), (823, 822, 0, 67), (827, 826, 16, 67), (82, 81, 0, 61), (346, 344, 345, 61), (353, 352, 0, 61),
  (356, 355, 0, 61), (359, 358, 0, 61), (362, 361, 0, 61), (370, 369, 0, 61), (405, 403, 404, 61), (430, 428, 429, 61), (435, 433, 434, 61), (440, 438, 439, 61),
  (450, 448, 449, 61), (572, 570, 571, 61), (578, 576, 577, 61), (582, 581, 6, 61), (591, 589, 590, 61), (595, 594, 7, 61), (600, 598, 599, 61), (608, 606, 607, 61),
  (611, 610, 0, 61), (614, 613, 0, 61), (620, 619, 0, 61), (624, 622, 623, 61), (628, 626, 627, 61), (633, 631, 632, 61), (641, 639, 640, 61), (645, 644, 0, 61),
  (656, 654, 655, 61), (659, 658, 0, 61), (663, 661, 662, 61), (667, 665, 666, 61), (671, 669, 670, 61), (676, 674, 675, 61), (694, 692, 693, 61), (698, 696, 697, 61),
  (703, 702, 10, 61), (718, 716, 717, 61), (722, 721, 11, 61), (725, 724, 0, 61), (730, 728, 729, 61), (734, 732, 733, 61), (737, 736, 0, 61), (745, 743, 744, 61),
  (838, 836, 837, 61), (842, 841, 17, 61), (845, 844, 0, 61), (853, 851, 852, 61), (862, 860, 861, 61), (867, 865, 866, 61), (871, 869, 870, 61), (875, 873, 874, 61),
  (894, 892, 893, 61), (898, 896, 897, 61), (902, 900, 901, 61), (912, 911, 0, 69), (1015, 1013, 1014, 69), (1018, 1017, 0, 69), (1021, 1020, 0, 69), (1025, 1024, 18, 69),
  (1029, 1028, 19, 69), (1032, 1031, 0, 69), (1036, 1035, 20, 69), (1040, 1039, 21, 69), (1043, 1042, 0, 69), (1047, 1046, 22, 69), (1051, 1050, 23, 69), (1054, 1053, 0, 69),
  (1058, 1056, 1057, 69), (1062, 1061, 24, 69), (1065, 1064, 0, 69), (1068, 1067, 0, 69), (1072, 1070, 1071, 69), (1076, 1075, 25, 69), (1080, 1078, 1079, 69), (1085, 1083, 1084, 69),
  (1088, 1087, 0, 69), (1092, 1090, 1091, 69), (1096, 1095, 26, 69), (1100, 1099, 27, 69), (1104, 1103, 28, 69), (1108, 1107, 29, 69), (1112, 1111, 30, 69), (1116, 1115, 31, 69),
  (1120, 1119, 32, 69), (1124, 1123, 33, 69), (1128, 1127, 34, 69), (1132, 1131, 35, 69), (1136, 1135, 36, 69), (1140, 1139, 37, 69), (1144, 1143, 38, 69), (1147, 1146, 0, 69),
  (1151, 1150, 39, 69), (1155, 1154, 40, 69), (1160, 1159, 41, 69), (1166, 1165, 42, 69), (1169, 1168, 0, 69), (1172, 1171, 0, 69), (1176, 1174, 1175, 69), (1180, 1179, 43, 69),
  (1184, 1182, 1183, 69), (1188, 1186, 1187, 69), (1192, 1190, 1191, 69), (1196, 1194, 1195, 69), (1201, 1200, 0, 69), (1204, 1203, 0, 69), (1208, 1206, 1207, 69), (1212, 1210, 1211, 69),
  (1216, 1214, 1215, 69), (1220, 1218, 1219, 69), (1223, 1222, 0, 69), (1227, 1226, 44, 69), (1231, 1229, 1230, 69), (1235, 1233, 1234, 69), (1239, 1237, 1238, 69), (1243, 1241, 1242, 69),
  (1247, 1245, 1246, 69), (1251, 1250, 45, 69), (1255, 1254, 46, 69), (1259, 1257, 1258, 69), (1263, 1261, 1262, 69), (1267, 1266, 47, 69), (1271, 1269, 1270, 69), (1275, 1274, 48, 69),
  (1280, 1278, 1279, 69), (1284, 1282, 1283, 69), (1288, 1286, 1287, 69), (1292, 1291, 49, 69), (1296, 1295, 50, 69), (1300, 1299, 51, 69), (1304, 1303, 52, 69), (1308, 1307, 53, 69),
  (1312, 1311, 54, 69), (1320, 1318, 1319, 69), (1324, 1323, 55, 69), (1327, 1326, 0, 69), (1331, 1330, 56, 69), (1335, 1333, 1334, 69), (1339, 1337, 1338, 69), (1344, 1342, 1343, 69),
  (1348, 1346, 1347, 69), (1352, 1350, 1351, 69), (1356, 1355, 57, 69), (1360, 1359, 58, 69), (1364, 1363, 59, 69), (1368, 1366, 1367, 69), (1372, 1370, 1371, 69), (1376, 1374, 1375, 69),
  (457, 456, 0, 71), (565, 564, 0, 72), (773, 771, 772, 74), (777, 775, 776, 74), (783, 781, 782, 74), (787, 785, 786, 74), (790, 789, 0, 75)]
def cstL : List (Nat × Nat × Int × Nat) := [(10, 265, 1431655765, 566), (10, 266, 858993459, 567), (10, 267, 252645135, 568), (7, 330, 1103515245, 726), (8, 251, 1103515245, 1276)]
def clgL : List (Nat × Nat × Int × Nat) := [(7, 322, 999, 363), (0, 93, 10, 510), (0, 128, 2, 556), (0, 130, 200, 557), (7, 165, -9223372036854775808, 615), (7, 174, 20, 616), (7, 299, 5, 863), (8, 206, 999, 1081), (8, 142, 10, 1156), (8, 148, 2, 1161), (8, 150, 200, 1162), (8, 224, -9223372036854775808, 1197),
  (8, 226, 20, 1198), (8, 314, 4, 1340)]
def strL : List (Nat × Nat × String × Nat) := [(6, 65, "box", 765), (6, 71, "kind", 818), (6, 73, "weigh", 819), (6, 75, "off", 820)]
/-- classes of new and anewarray by their numbers, 16: [[I -/
def clsL : List (Nat × Nat × Nat × Nat) := [(14, 7, 7, 78), (7, 11, 3, 86), (3, 9, 1, 92), (3, 17, 16, 94), (7, 24, 0, 167), (0, 15, 16, 173), (0, 27, 4, 174), (0, 33, 3, 176), (7, 31, 2, 234), (2, 9, 0, 240), (7, 38, 6, 259), (6, 22, 16, 265),
  (7, 45, 5, 298), (14, 10, 8, 908)]
/-- built in: 1 Object.<init>, 2 arraycopy, 3 String.checkIndex, 4 Math.max -/
def bltL : List (Nat × Nat × Nat × Nat) := [(7, 5, 1, 83), (3, 3, 1, 91), (1, 3, 1, 100), (0, 3, 1, 172), (4, 3, 1, 182), (2, 3, 1, 239), (6, 3, 1, 264), (5, 3, 1, 304), (3, 100, 4, 395), (3, 34, 2, 712), (13, 9, 3, 791), (7, 316, 2, 907),
  (8, 3, 1, 913)]
abbrev pw_acNative : Nat := 714
abbrev pw_acStatic : Nat := 713
abbrev pw_acInit : Nat := 73
abbrev pw_mxStatic : Nat := 396
abbrev pw_mxInit : Nat := 70
abbrev pw_mxCode : Nat := 397
abbrev pw_oiInst : Nat := 84
abbrev pw_oiCode : Nat := 85
abbrev pw_ciStatic : Nat := 792
abbrev pw_ciCode : Nat := 793
abbrev pw_stInit : Nat := 74
abbrev pw_pcLink : Nat := 796
abbrev pw_pcStatic : Nat := 797
abbrev pw_pcCode : Nat := 798
abbrev pw_pcInit : Nat := 76
abbrev pw_siLink : Nat := 794
abbrev pw_csLink : Nat := 778
abbrev pw_vaLink : Nat := 1377
abbrev pw_coLink : Nat := 1378
abbrev pw_kaNest : Nat := 445
abbrev pw_nbNest : Nat := 828
abbrev pw_arI : Nat := 146
abbrev pw_arJ : Nat := 206
abbrev pw_arC : Nat := 1011
abbrev pw_ao1 : Nat := 93
abbrev pw_ao4 : Nat := 175
abbrev pw_ao5 : Nat := 299
abbrev pw_aoI : Nat := 95
def instP : List Nat := [168, 96, 235, 87, 178, 300, 260, 79, 909]
def initP : List Nat := [64, 63, 66, 62, 65, 68, 67, 61, 69]
/-- kind and length of each cell: 0 .. 8 objects, 10 int, 11 long, 12 char, 13 .. 15 rows of boxes, polygons, sheets, 16 int[][] -/
def shL : List (Nat × Nat) := [(7, 8), (3, 4), (13, 7), (16, 7), (10, 7), (10, 7), (10, 7), (10, 7), (10, 7), (10, 7), (10, 7), (1, 9), (1, 9), (1, 9), (1, 9), (1, 9),
  (1, 9), (1, 9), (3, 4), (13, 7), (16, 7), (10, 7), (10, 7), (10, 7), (10, 7), (10, 7), (10, 7), (10, 7), (1, 9), (1, 9), (1, 9), (1, 9),
  (1, 9), (1, 9), (1, 9), (3, 4), (13, 7), (16, 7), (10, 7), (10, 7), (10, 7), (10, 7), (10, 7), (10, 7), (10, 7), (1, 9), (1, 9), (1, 9),
  (1, 9), (1, 9), (1, 9), (1, 9), (0, 7), (10, 7), (16, 7), (10, 7), (10, 7), (10, 7), (10, 7), (10, 7), (10, 7), (10, 7), (11, 7), (11, 7),
  (14, 7), (3, 4), (13, 7), (16, 7), (10, 7), (10, 7), (10, 7), (10, 7), (10, 7), (10, 7), (10, 7), (1, 9), (1, 9), (1, 9), (1, 9), (1, 9),
  (1, 9), (1, 9), (4, 6), (10, 28), (10, 28), (10, 28), (10, 28), (4, 6), (10, 28), (10, 28), (10, 28), (10, 28), (4, 6), (10, 28), (10, 28), (10, 28),
  (10, 28), (4, 6), (10, 28), (10, 28), (10, 28), (10, 28), (4, 6), (10, 28), (10, 28), (10, 28), (10, 28), (4, 6), (10, 28), (10, 28), (10, 28), (10, 28),
  (4, 6), (10, 28), (10, 28), (10, 28), (10, 28), (2, 5), (0, 7), (10, 7), (16, 7), (10, 7), (10, 7), (10, 7), (10, 7), (10, 7), (10, 7), (10, 7),
  (11, 7), (11, 7), (14, 7), (3, 4), (13, 7), (16, 7), (10, 7), (10, 7), (10, 7), (10, 7), (10, 7), (10, 7), (10, 7), (1, 9), (1, 9), (1, 9),
  (1, 9), (1, 9), (1, 9), (1, 9), (4, 6), (10, 28), (10, 28), (10, 28), (10, 28), (4, 6), (10, 28), (10, 28), (10, 28), (10, 28), (4, 6), (10, 28),
  (10, 28), (10, 28), (10, 28), (4, 6), (10, 28), (10, 28), (10, 28), (10, 28), (4, 6), (10, 28), (10, 28), (10, 28), (10, 28), (4, 6), (10, 28), (10, 28),
  (10, 28), (10, 28), (4, 6), (10, 28), (10, 28), (10, 28), (10, 28), (10, 128), (10, 128), (10, 128), (10, 7), (6, 9), (10, 60), (10, 13), (16, 13), (10, 5),
  (10, 5), (10, 5), (10, 5), (10, 5), (10, 5), (10, 5), (10, 5), (10, 5), (10, 5), (10, 5), (10, 5), (10, 5), (15, 4), (5, 3), (10, 40), (5, 3),
  (10, 40), (5, 3), (10, 40), (5, 3), (10, 40), (8, 32), (10, 74), (10, 74), (10, 8), (10, 64), (10, 32), (10, 32), (10, 64), (10, 64), (10, 128), (10, 8),
  (10, 60), (10, 5), (10, 4), (12, 20), (10, 4), (10, 4), (10, 160), (10, 40)]
def nCell : Nat := 232
def mdl : Int := 213
/-- 0: an int, 1: a reference that a constructor lays, 2: a reference that changes -/
def ftL : List (List Nat) := [[1, 1, 1, 1, 1, 2, 0], [0, 0, 0, 0, 0, 0, 0, 0, 0], [1, 1, 1, 1, 1], [1, 1, 0, 0], [1, 1, 1, 1, 0, 0], [1, 0, 0], [1, 0, 1, 1, 0, 0, 0, 0, 0], [1, 1, 1, 1, 1, 1, 1, 0], [1, 1, 0, 1, 1, 1, 1, 1, 1, 0, 0, 0, 0, 0, 0, 1, 1, 0, 1, 1, 1, 1, 0, 0, 0, 0, 1, 1, 1, 0, 0, 1]]
def rtL : List (List Int) := [[1, 18, 35, 52, 117, 187, 204, -1], [2, 3, -1, -1], [11, 12, 13, 14, 15, 16, 17], [4, 5, 6, 7, 8, 9, 10], [], [], [], [],
  [], [], [], [], [], [], [], [],
  [], [], [19, 20, -1, -1], [28, 29, 30, 31, 32, 33, 34], [21, 22, 23, 24, 25, 26, 27], [], [], [],
  [], [], [], [], [], [], [], [],
  [], [], [], [36, 37, -1, -1], [45, 46, 47, 48, 49, 50, 51], [38, 39, 40, 41, 42, 43, 44], [], [],
  [], [], [], [], [], [], [], [],
  [], [], [], [], [53, 54, 62, 63, 64, -1, -1], [], [55, 56, 57, 58, 59, 60, 61], [],
  [], [], [], [], [], [], [], [],
  [82, 87, 92, 97, 102, 107, 112], [66, 67, -1, -1], [75, 76, 77, 78, 79, 80, 81], [68, 69, 70, 71, 72, 73, 74], [], [], [], [],
  [], [], [], [], [], [], [], [],
  [], [], [83, 84, 85, 86, -1, -1], [], [], [], [], [88, 89, 90, 91, -1, -1],
  [], [], [], [], [93, 94, 95, 96, -1, -1], [], [], [],
  [], [98, 99, 100, 101, -1, -1], [], [], [], [], [103, 104, 105, 106, -1, -1], [],
  [], [], [], [108, 109, 110, 111, -1, -1], [], [], [], [],
  [113, 114, 115, 116, -1, -1], [], [], [], [], [118, 183, 184, 185, 186], [119, 120, 128, 129, 130, -1, -1], [],
  [121, 122, 123, 124, 125, 126, 127], [], [], [], [], [], [], [],
  [], [], [148, 153, 158, 163, 168, 173, 178], [132, 133, -1, -1], [141, 142, 143, 144, 145, 146, 147], [134, 135, 136, 137, 138, 139, 140], [], [],
  [], [], [], [], [], [], [], [],
  [], [], [], [], [149, 150, 151, 152, -1, -1], [], [], [],
  [], [154, 155, 156, 157, -1, -1], [], [], [], [], [159, 160, 161, 162, -1, -1], [],
  [], [], [], [164, 165, 166, 167, -1, -1], [], [], [], [],
  [169, 170, 171, 172, -1, -1], [], [], [], [], [174, 175, 176, 177, -1, -1], [], [],
  [], [], [179, 180, 181, 182, -1, -1], [], [], [], [], [],
  [], [], [], [188, -1, 189, 190, -1, -1, -1, -1, -1], [], [], [191, 192, 193, 194, 195, 196, 197, 198, 199, 200, 201, 202, 203], [],
  [], [], [], [], [], [], [], [],
  [], [], [], [], [205, 207, 209, 211], [206, -1, -1], [], [208, -1, -1],
  [], [210, -1, -1], [], [212, -1, -1], [], [214, 215, -1, 216, 217, 218, 219, 220, 221, -1, -1, -1, -1, -1, -1, 222, 223, -1, 224, 225, 226, 227, -1, -1, -1, -1, 228, 229, 230, -1, -1, 231], [], [],
  [], [], [], [], [], [], [], [],
  [], [], [], [], [], [], [], []]
def rtab (a k : Int) : Int := if 0 ≤ a ∧ 0 ≤ k then (rtL.getD a.toNat []).getD k.toNat (-1) else -1
