/-! the methods and the layout (by program: wip/pm/gen4.py) -/
abbrev mE : Type := MethodName × ByteArray × Nat × Option FieldType × Nat × Nat × Nat × Nat × Nat × Nat × Nat
def mInfo_0 : List mE := [
  (yX0_init, cX0_init, 1, (none : Option FieldType), 0, 2, 6, 0, 0, 0, 0),
  (yX0_has, cX0_has, 2, (some FieldType.boolean), 1, 1, 0, 0, 0, 0, 0),
  (yX0_add, cX0_add, 6, (some FieldType.int), 4, 1, 0, 0, 0, 0, 0),
  (yX0_canTakeBack, cX0_canTakeBack, 3, (some FieldType.boolean), 2, 1, 0, 0, 0, 0, 0),
  (yX0_takeBack, cX0_takeBack, 3, (none : Option FieldType), 2, 1, 0, 0, 0, 0, 0),
  (yX0_takenBack, cX0_takenBack, 3, (some FieldType.int), 0, 1, 0, 0, 0, 0, 0),
  (yX0_latest, cX0_latest, 5, (some FieldType.int), 2, 1, 0, 0, 0, 0, 0),
  (yX0_hanging, cX0_hanging, 5, (some FieldType.int), 2, 1, 0, 0, 0, 0, 0),
  (yX0_copyFrom, cX0_copyFrom, 2, (none : Option FieldType), 1, 1, 0, 0, 0, 0, 0),
  (yX1_init, cX1_init, 1, (none : Option FieldType), 0, 2, 9, 1, 0, 0, 0),
  (yX1_perform, cX1_perform, 6, (none : Option FieldType), 3, 1, 0, 1, 0, 0, 0),
  (yX1_begin, cX1_begin, 3, (none : Option FieldType), 2, 1, 0, 1, 0, 0, 0),
  (yX1_doPart, cX1_doPart, 5, (none : Option FieldType), 2, 1, 0, 1, 0, 0, 0),
  (yX1_timesAtMost, cX1_timesAtMost, 2, (some FieldType.int), 2, 0, 0, 1, 0, 0, 0),
  (yX1_isWanted, cX1_isWanted, 3, (some FieldType.boolean), 2, 1, 0, 1, 0, 0, 0),
  (yX1_doOnce, cX1_doOnce, 3, (none : Option FieldType), 1, 1, 0, 1, 0, 0, 0)]
def mInfo_1 : List mE := [
  (yX1_moreStretch, cX1_moreStretch, 2, (some FieldType.int), 1, 1, 0, 1, 0, 0, 0),
  (yX1_creeps, cX1_creeps, 1, (some FieldType.boolean), 0, 1, 0, 1, 0, 0, 0),
  (yX1_load, cX1_load, 1, (some FieldType.int), 0, 1, 0, 1, 0, 0, 0),
  (yX1_take, cX1_take, 3, (none : Option FieldType), 0, 1, 0, 1, 0, 0, 0),
  (yX1_askLimits, cX1_askLimits, 2, (none : Option FieldType), 1, 1, 0, 1, 0, 0, 0),
  (yX2_init, cX2_init, 1, (none : Option FieldType), 0, 2, 4, 2, 0, 0, 0),
  (yX2_set, cX2_set, 6, (none : Option FieldType), 5, 1, 0, 2, 0, 0, 0),
  (yX2_otherOf, cX2_otherOf, 2, (some FieldType.int), 1, 1, 0, 2, 0, 0, 0),
  (yX2_ledToHouse, cX2_ledToHouse, 7, (some FieldType.int), 2, 1, 0, 2, 0, 0, 0),
  (yX2_ledOnce, cX2_ledOnce, 4, (some FieldType.long), 2, 1, 0, 2, 0, 0, 0),
  (yX2_doubtOf, cX2_doubtOf, 6, (some FieldType.int), 1, 1, 0, 2, 0, 0, 0),
  (yX2_goesOver, cX2_goesOver, 5, (some FieldType.boolean), 2, 1, 0, 2, 0, 0, 0),
  (yX2_copyFrom, cX2_copyFrom, 2, (none : Option FieldType), 1, 1, 0, 2, 0, 0, 0),
  (yX3_init, cX3_init, 1, (none : Option FieldType), 0, 2, 2, 3, 0, 0, 0),
  (yX3_clear, cX3_clear, 1, (none : Option FieldType), 0, 1, 0, 3, 0, 0, 0),
  (yX3_insert, cX3_insert, 4, (none : Option FieldType), 2, 1, 0, 3, 0, 0, 0)]
def mInfo_2 : List mE := [
  (yX3_valueAt, cX3_valueAt, 2, (some FieldType.int), 1, 1, 0, 3, 0, 0, 0),
  (yX3_pieceBits, cX3_pieceBits, 3, (some FieldType.int), 0, 1, 0, 3, 0, 0, 0),
  (yX3_oddPiece, cX3_oddPiece, 3, (some FieldType.int), 1, 1, 0, 3, 0, 0, 0),
  (yX3_isApart, cX3_isApart, 8, (some FieldType.boolean), 3, 1, 0, 3, 0, 0, 0),
  (yX3_surePlace, cX3_surePlace, 10, (some FieldType.int), 3, 0, 0, 3, 0, 0, 0),
  (yX3_power, cX3_power, 5, (some FieldType.long), 2, 0, 0, 3, 0, 0, 0),
  (yX4_init, cX4_init, 1, (none : Option FieldType), 0, 2, 4, 4, 0, 0, 0),
  (yX4_become, cX4_become, 4, (none : Option FieldType), 3, 1, 0, 4, 0, 0, 0),
  (yX4_addAnswer, cX4_addAnswer, 2, (none : Option FieldType), 1, 1, 0, 4, 0, 0, 0),
  (yX4_above, cX4_above, 1, (some FieldType.int), 1, 0, 0, 4, 0, 0, 0),
  (yX4_isOf, cX4_isOf, 4, (some FieldType.boolean), 1, 1, 0, 4, 0, 0, 0),
  (yX4_lastStretch, cX4_lastStretch, 1, (some FieldType.int), 0, 1, 0, 4, 0, 0, 0),
  (yX4_loadAt, cX4_loadAt, 3, (some FieldType.int), 1, 1, 0, 4, 0, 0, 0),
  (yX4_answerAt, cX4_answerAt, 4, (some FieldType.int), 1, 1, 0, 4, 0, 0, 0),
  (yX4_copyFrom, cX4_copyFrom, 2, (none : Option FieldType), 1, 1, 0, 4, 0, 0, 0),
  (yX5_init, cX5_init, 1, (none : Option FieldType), 0, 2, 2, 5, 0, 0, 0)]
def mInfo_3 : List mE := [
  (yX5_clear, cX5_clear, 1, (none : Option FieldType), 0, 1, 0, 5, 0, 0, 0),
  (yX5_add, cX5_add, 4, (none : Option FieldType), 3, 1, 0, 5, 0, 0, 0),
  (yX5_actAt, cX5_actAt, 2, (some FieldType.int), 1, 1, 0, 5, 0, 0, 0),
  (yX5_amountAt, cX5_amountAt, 2, (some FieldType.int), 1, 1, 0, 5, 0, 0, 0),
  (yX5_copyFrom, cX5_copyFrom, 2, (none : Option FieldType), 1, 1, 0, 5, 0, 0, 0),
  (yX6_init, cX6_init, 1, (none : Option FieldType), 0, 2, 2, 6, 0, 0, 0),
  (yX6_clear, cX6_clear, 1, (none : Option FieldType), 0, 1, 0, 6, 0, 0, 0),
  (yX6_add, cX6_add, 3, (none : Option FieldType), 2, 1, 0, 6, 0, 0, 0),
  (yX6_stretchAt, cX6_stretchAt, 2, (some FieldType.int), 1, 1, 0, 6, 0, 0, 0),
  (yX6_loadAt, cX6_loadAt, 2, (some FieldType.int), 1, 1, 0, 6, 0, 0, 0),
  (yX6_flatAt, cX6_flatAt, 2, (some FieldType.int), 1, 1, 0, 6, 0, 0, 0),
  (yX6_isGood, cX6_isGood, 2, (some FieldType.boolean), 1, 1, 0, 6, 0, 0, 0),
  (yX6_goodOnes, cX6_goodOnes, 3, (some FieldType.int), 0, 1, 0, 6, 0, 0, 0),
  (yX6_findLine, cX6_findLine, 3, (some FieldType.boolean), 0, 1, 0, 6, 0, 0, 0),
  (yX6_tryLine, cX6_tryLine, 5, (none : Option FieldType), 2, 1, 0, 6, 0, 0, 0),
  (yX6_belowLine, cX6_belowLine, 13, (some FieldType.long), 4, 1, 0, 6, 0, 0, 0)]
def mInfo_4 : List mE := [
  (yX6_yieldAt, cX6_yieldAt, 3, (some FieldType.int), 1, 1, 0, 6, 0, 0, 0),
  (yX6_topAt, cX6_topAt, 3, (some FieldType.int), 0, 1, 0, 6, 0, 0, 0),
  (yX6_breakAt, cX6_breakAt, 4, (some FieldType.int), 1, 1, 0, 6, 0, 0, 0),
  (yX6_spentUpTo, cX6_spentUpTo, 6, (some FieldType.long), 1, 1, 0, 6, 0, 0, 0),
  (yX6_spentBetween, cX6_spentBetween, 5, (some FieldType.long), 2, 1, 0, 6, 0, 0, 0),
  (yX6_numberBy, cX6_numberBy, 3, (some FieldType.int), 1, 1, 0, 6, 0, 0, 0),
  (yX6_stretchOr, cX6_stretchOr, 2, (some FieldType.int), 1, 1, 0, 6, 0, 0, 0),
  (yX6_curveAt, cX6_curveAt, 4, (some FieldType.int), 1, 1, 0, 6, 0, 0, 0),
  (yX6_copyFrom, cX6_copyFrom, 2, (none : Option FieldType), 1, 1, 0, 6, 0, 0, 0),
  (yX7_init, cX7_init, 1, (none : Option FieldType), 0, 2, 1, 7, 0, 0, 0),
  (yX7_become, cX7_become, 4, (none : Option FieldType), 2, 1, 0, 7, 0, 0, 0),
  (yX7_isMissing, cX7_isMissing, 1, (some FieldType.boolean), 0, 1, 0, 7, 0, 0, 0),
  (yX7_spans, cX7_spans, 3, (some FieldType.boolean), 2, 1, 0, 7, 0, 0, 0),
  (yX7_numberAt, cX7_numberAt, 2, (some FieldType.int), 1, 1, 0, 7, 0, 0, 0),
  (yX7_set, cX7_set, 3, (none : Option FieldType), 2, 1, 0, 7, 0, 0, 0),
  (yX7_begins, cX7_begins, 5, (some FieldType.boolean), 3, 1, 0, 7, 0, 0, 0)]
def mInfo_5 : List mE := [
  (yX7_beginsWithReadings, cX7_beginsWithReadings, 4, (some FieldType.boolean), 1, 1, 0, 7, 0, 0, 0),
  (yX8_init, cX8_init, 2, (none : Option FieldType), 0, 2, 100, 8, 0, 0, 0),
  (yX8_pieces, cX8_pieces, 1, (some FieldType.int), 0, 1, 0, 8, 0, 0, 0),
  (yX8_pieceAt, cX8_pieceAt, 2, (some (FieldType.object "StrengthHouse$Piece")), 1, 1, 0, 8, 0, 0, 0),
  (yX8_addPiece, cX8_addPiece, 1, (some (FieldType.object "StrengthHouse$Piece")), 0, 1, 0, 8, 0, 0, 0),
  (yX8_programAt, cX8_programAt, 2, (some (FieldType.object "StrengthHouse$Program")), 1, 1, 0, 8, 0, 0, 0),
  (yX8_programsThere, cX8_programsThere, 3, (some FieldType.int), 0, 1, 0, 8, 0, 0, 0),
  (yX8_readingsOfAll, cX8_readingsOfAll, 3, (some FieldType.int), 0, 1, 0, 8, 0, 0, 0),
  (yX8_isLimit, cX8_isLimit, 2, (some FieldType.boolean), 2, 0, 0, 8, 0, 0, 0),
  (yX8_limitAt, cX8_limitAt, 2, (some FieldType.int), 1, 1, 0, 8, 0, 0, 0),
  (yX8_setLimit, cX8_setLimit, 3, (none : Option FieldType), 2, 1, 0, 8, 0, 0, 0),
  (yX8_addByte, cX8_addByte, 2, (none : Option FieldType), 1, 1, 0, 8, 0, 0, 0),
  (yX8_keepRun, cX8_keepRun, 2, (none : Option FieldType), 1, 1, 0, 8, 0, 0, 0),
  (yX8_ranAt, cX8_ranAt, 2, (some FieldType.int), 1, 1, 0, 8, 0, 0, 0),
  (yX8_addWaiting, cX8_addWaiting, 2, (some FieldType.boolean), 1, 1, 0, 8, 0, 0, 0),
  (yX8_waitingAt, cX8_waitingAt, 2, (some FieldType.int), 1, 1, 0, 8, 0, 0, 0)]
def mInfo_6 : List mE := [
  (yX8_copyFrom, cX8_copyFrom, 3, (none : Option FieldType), 1, 1, 0, 8, 0, 0, 0),
  (yX9_init, cX9_init, 1, (none : Option FieldType), 0, 2, 1, 9, 0, 0, 0),
  (yX9_faultOf, cX9_faultOf, 6, (some FieldType.int), 3, 1, 0, 9, 0, 0, 0),
  (yX9_readPart, cX9_readPart, 5, (some FieldType.boolean), 2, 1, 0, 9, 0, 0, 0),
  (yX9_actHere, cX9_actHere, 2, (some FieldType.int), 0, 1, 0, 9, 0, 0, 0),
  (yX9_wordOf, cX9_wordOf, 1, (some (FieldType.object "java/lang/String")), 1, 0, 0, 9, 0, 0, 0),
  (yX9_numberHere, cX9_numberHere, 3, (some FieldType.int), 0, 1, 0, 9, 0, 0, 0),
  (yX9_isMark, cX9_isMark, 3, (some FieldType.boolean), 1, 1, 0, 9, 0, 0, 0),
  (yX9_next, cX9_next, 1, (none : Option FieldType), 0, 1, 0, 9, 0, 0, 0),
  (yX9_byteAt, cX9_byteAt, 2, (some FieldType.int), 1, 1, 0, 9, 0, 0, 0),
  (yX9_isLetter, cX9_isLetter, 2, (some FieldType.boolean), 1, 1, 0, 9, 0, 0, 0),
  (yX9_isDigit, cX9_isDigit, 2, (some FieldType.boolean), 1, 1, 0, 9, 0, 0, 0),
  (yX10_init, cX10_init, 1, (none : Option FieldType), 0, 2, 2, 10, 0, 0, 0),
  (yX10_ask, cX10_ask, 6, (some FieldType.int), 4, 1, 0, 10, 0, 0, 0),
  (yX10_bodyAt, cX10_bodyAt, 2, (some FieldType.int), 1, 1, 0, 10, 0, 0, 0),
  (yX10_say, cX10_say, 7, (some FieldType.int), 4, 1, 0, 10, 0, 0, 0)]
def mInfo_7 : List mE := [
  (yX10_bodyOf, cX10_bodyOf, 3, (some FieldType.int), 2, 0, 0, 10, 0, 0, 0),
  (yX10_workOut, cX10_workOut, 4, (some FieldType.int), 3, 1, 0, 10, 0, 0, 0),
  (yX10_shareOut, cX10_shareOut, 3, (some FieldType.int), 1, 1, 0, 10, 0, 0, 0),
  (yX11_init, cX11_init, 2, (none : Option FieldType), 0, 2, 234, 11, 0, 0, 0),
  (yX11_piece, cX11_piece, 9, (some FieldType.int), 5, 1, 0, 11, 0, 0, 0),
  (yX11_pieceIs, cX11_pieceIs, 4, (some FieldType.int), 2, 1, 0, 11, 0, 0, 0),
  (yX11_as, cX11_as, 4, (some FieldType.int), 2, 1, 0, 11, 0, 0, 0),
  (yX11_answer, cX11_answer, 4, (some FieldType.int), 2, 1, 0, 11, 0, 0, 0),
  (yX11_trace, cX11_trace, 7, (some FieldType.int), 3, 1, 0, 11, 0, 0, 0),
  (yX11_reading, cX11_reading, 5, (some FieldType.int), 3, 1, 0, 11, 0, 0, 0),
  (yX11_limit, cX11_limit, 4, (some FieldType.int), 2, 1, 0, 11, 0, 0, 0),
  (yX11_feed, cX11_feed, 5, (some FieldType.int), 2, 1, 0, 11, 0, 0, 0),
  (yX11_program, cX11_program, 4, (some FieldType.int), 1, 1, 0, 11, 0, 0, 0),
  (yX11_run, cX11_run, 5, (some FieldType.int), 2, 1, 0, 11, 0, 0, 0),
  (yX11_ran, cX11_ran, 2, (some FieldType.int), 1, 1, 0, 11, 0, 0, 0),
  (yX11_line, cX11_line, 5, (some FieldType.int), 2, 1, 0, 11, 0, 0, 0)]
def mInfo_8 : List mE := [
  (yX11_yields, cX11_yields, 4, (some FieldType.int), 2, 1, 0, 11, 0, 0, 0),
  (yX11_top, cX11_top, 3, (some FieldType.int), 1, 1, 0, 11, 0, 0, 0),
  (yX11_breaks, cX11_breaks, 4, (some FieldType.int), 2, 1, 0, 11, 0, 0, 0),
  (yX11_spent, cX11_spent, 4, (some FieldType.long), 2, 1, 0, 11, 0, 0, 0),
  (yX11_number, cX11_number, 4, (some FieldType.int), 2, 1, 0, 11, 0, 0, 0),
  (yX11_curve, cX11_curve, 5, (some FieldType.int), 3, 1, 0, 11, 0, 0, 0),
  (yX11_odd, cX11_odd, 4, (some FieldType.int), 3, 1, 0, 11, 0, 0, 0),
  (yX11_sure, cX11_sure, 6, (some FieldType.int), 4, 1, 0, 11, 0, 0, 0),
  (yX11_few, cX11_few, 4, (some FieldType.int), 2, 1, 0, 11, 0, 0, 0),
  (yX11_prove, cX11_prove, 7, (some FieldType.int), 4, 1, 0, 11, 0, 0, 0),
  (yX11_led, cX11_led, 4, (some FieldType.int), 3, 1, 0, 11, 0, 0, 0),
  (yX11_enter, cX11_enter, 4, (some FieldType.int), 3, 1, 0, 11, 0, 0, 0),
  (yX11_entryIs, cX11_entryIs, 4, (some FieldType.int), 2, 1, 0, 11, 0, 0, 0),
  (yX11_back, cX11_back, 3, (some FieldType.int), 2, 1, 0, 11, 0, 0, 0),
  (yX11_book, cX11_book, 3, (some FieldType.int), 2, 1, 0, 11, 0, 0, 0),
  (yX11_hangs, cX11_hangs, 2, (some FieldType.int), 1, 1, 0, 11, 0, 0, 0)]
def mInfo_9 : List mE := [
  (yX11_plates, cX11_plates, 5, (some FieldType.int), 3, 1, 0, 11, 0, 0, 0),
  (yX11_drift, cX11_drift, 5, (some FieldType.int), 1, 1, 0, 11, 0, 0, 0),
  (yX11_voice, cX11_voice, 6, (some FieldType.int), 3, 1, 0, 11, 0, 0, 0),
  (yX11_body, cX11_body, 2, (some FieldType.int), 1, 1, 0, 11, 0, 0, 0),
  (yX11_sheet, cX11_sheet, 5, (some FieldType.int), 3, 1, 0, 11, 0, 0, 0),
  (yX11_put, cX11_put, 5, (some FieldType.int), 3, 1, 0, 11, 0, 0, 0),
  (yX11_move, cX11_move, 8, (some FieldType.int), 5, 1, 0, 11, 0, 0, 0),
  (yX11_image, cX11_image, 1, (some FieldType.int), 0, 1, 0, 11, 0, 0, 0),
  (yX11_restore, cX11_restore, 1, (some FieldType.int), 0, 1, 0, 11, 0, 0, 0),
  (yX11_tell, cX11_tell, 2, (some FieldType.int), 1, 1, 0, 11, 0, 0, 0),
  (yX11_check, cX11_check, 6, (some FieldType.int), 2, 1, 0, 11, 0, 0, 0),
  (yX11_count, cX11_count, 2, (some FieldType.int), 1, 1, 0, 11, 0, 0, 0),
  (yX11_told, cX11_told, 2, (some FieldType.int), 1, 1, 0, 11, 0, 0, 0),
  (yX11_refuse, cX11_refuse, 2, (some FieldType.int), 1, 1, 0, 11, 0, 0, 0),
  (yX11_orNone, cX11_orNone, 2, (some FieldType.int), 1, 1, 0, 11, 0, 0, 0),
  (yX11_sheetAt, cX11_sheetAt, 2, (some (FieldType.object "StrengthHouse$Sheet")), 1, 1, 0, 11, 0, 0, 0)]
def mInfo_10 : List mE := [
  (yX11_orderCurves, cX11_orderCurves, 6, (none : Option FieldType), 2, 1, 0, 11, 0, 0, 0),
  (yX11_orderNumbers, cX11_orderNumbers, 6, (none : Option FieldType), 2, 1, 0, 11, 0, 0, 0),
  (yX11_fewestPlates, cX11_fewestPlates, 7, (some FieldType.int), 3, 1, 0, 11, 0, 0, 0),
  (yX11_cutOneMore, cX11_cutOneMore, 4, (some FieldType.int), 3, 0, 0, 11, 0, 0, 0),
  (yX11_sumsApart, cX11_sumsApart, 4, (some FieldType.int), 2, 0, 0, 11, 0, 0, 0),
  (yX11_firstUnlike, cX11_firstUnlike, 5, (some FieldType.int), 2, 1, 0, 11, 0, 0, 0),
  (yX11_within, cX11_within, 3, (some FieldType.boolean), 3, 0, 0, 11, 0, 0, 0),
  (yX11_isLot, cX11_isLot, 1, (some FieldType.boolean), 1, 0, 0, 11, 0, 0, 0),
  (yX11_isLaw, cX11_isLaw, 1, (some FieldType.boolean), 1, 0, 0, 11, 0, 0, 0),
  (yX11_isMeter, cX11_isMeter, 1, (some FieldType.boolean), 1, 0, 0, 11, 0, 0, 0),
  (yX11_isStretch, cX11_isStretch, 1, (some FieldType.boolean), 1, 0, 0, 11, 0, 0, 0),
  (yX11_isTenths, cX11_isTenths, 1, (some FieldType.boolean), 1, 0, 0, 11, 0, 0, 0),
  (yX11_straight, cX11_straight, 4, (some FieldType.int), 4, 0, 0, 11, 0, 0, 0),
  (yX12_init, cX12_init, 2, (none : Option FieldType), 0, 2, 18, 12, 0, 0, 0),
  (yX12_finding, cX12_finding, 2, (some FieldType.int), 1, 1, 0, 12, 0, 0, 0),
  (yX12_within, cX12_within, 3, (some FieldType.boolean), 3, 0, 0, 12, 0, 0, 0)]
def mInfo_11 : List mE := [
  (yX12_is, cX12_is, 3, (some FieldType.boolean), 2, 1, 0, 12, 0, 0, 0),
  (yX12_has, cX12_has, 2, (some FieldType.boolean), 2, 0, 0, 12, 0, 0, 0),
  (yX12_bits, cX12_bits, 3, (some FieldType.int), 1, 0, 0, 12, 0, 0, 0),
  (yX12_become, cX12_become, 4, (some FieldType.int), 2, 1, 0, 12, 0, 0, 0),
  (yX12_of, cX12_of, 3, (some FieldType.int), 2, 1, 0, 12, 0, 0, 0),
  (yX12_piece, cX12_piece, 10, (some FieldType.int), 5, 1, 0, 12, 0, 0, 0),
  (yX12_many, cX12_many, 2, (some FieldType.int), 1, 1, 0, 12, 0, 0, 0),
  (yX12_stretch, cX12_stretch, 3, (some FieldType.int), 2, 1, 0, 12, 0, 0, 0),
  (yX12_load, cX12_load, 3, (some FieldType.int), 2, 1, 0, 12, 0, 0, 0),
  (yX12_isGood, cX12_isGood, 3, (some FieldType.boolean), 2, 1, 0, 12, 0, 0, 0),
  (yX12_pieceIs, cX12_pieceIs, 5, (some FieldType.int), 2, 1, 0, 12, 0, 0, 0),
  (yX12_above, cX12_above, 1, (some FieldType.int), 1, 0, 0, 12, 0, 0, 0),
  (yX12_as, cX12_as, 4, (some FieldType.int), 2, 1, 0, 12, 0, 0, 0),
  (yX12_end, cX12_end, 2, (some FieldType.int), 1, 1, 0, 12, 0, 0, 0),
  (yX12_answered, cX12_answered, 7, (some FieldType.int), 2, 1, 0, 12, 0, 0, 0),
  (yX12_answer, cX12_answer, 3, (some FieldType.int), 2, 1, 0, 12, 0, 0, 0)]
def mInfo_12 : List mE := [
  (yX12_read, cX12_read, 5, (none : Option FieldType), 4, 1, 0, 12, 0, 0, 0),
  (yX12_trace, cX12_trace, 7, (some FieldType.int), 3, 1, 0, 12, 0, 0, 0),
  (yX12_reading, cX12_reading, 4, (some FieldType.int), 3, 1, 0, 12, 0, 0, 0),
  (yX12_limit, cX12_limit, 3, (some FieldType.int), 2, 1, 0, 12, 0, 0, 0),
  (yX12_feed, cX12_feed, 5, (some FieldType.int), 2, 1, 0, 12, 0, 0, 0),
  (yX12_isByte, cX12_isByte, 4, (some FieldType.boolean), 3, 1, 0, 12, 0, 0, 0),
  (yX12_goOn, cX12_goOn, 3, (none : Option FieldType), 0, 1, 0, 12, 0, 0, 0),
  (yX12_takes, cX12_takes, 4, (some FieldType.boolean), 1, 1, 0, 12, 0, 0, 0),
  (yX12_number, cX12_number, 3, (some FieldType.int), 0, 1, 0, 12, 0, 0, 0),
  (yX12_part, cX12_part, 3, (none : Option FieldType), 0, 1, 0, 12, 0, 0, 0),
  (yX12_isProgram, cX12_isProgram, 2, (some FieldType.boolean), 1, 1, 0, 12, 0, 0, 0),
  (yX12_program, cX12_program, 5, (some FieldType.int), 1, 1, 0, 12, 0, 0, 0),
  (yX12_hasProgram, cX12_hasProgram, 2, (some FieldType.boolean), 1, 1, 0, 12, 0, 0, 0),
  (yX12_loadNow, cX12_loadNow, 1, (some FieldType.int), 0, 1, 0, 12, 0, 0, 0),
  (yX12_tick, cX12_tick, 1, (none : Option FieldType), 0, 1, 0, 12, 0, 0, 0),
  (yX12_goesOn, cX12_goesOn, 1, (some FieldType.boolean), 0, 1, 0, 12, 0, 0, 0)]
def mInfo_13 : List mE := [
  (yX12_takeReading, cX12_takeReading, 4, (none : Option FieldType), 0, 1, 0, 12, 0, 0, 0),
  (yX12_does, cX12_does, 5, (none : Option FieldType), 2, 1, 0, 12, 0, 0, 0),
  (yX12_goThrough, cX12_goThrough, 6, (some FieldType.int), 2, 1, 0, 12, 0, 0, 0),
  (yX12_run, cX12_run, 5, (some FieldType.int), 2, 1, 0, 12, 0, 0, 0),
  (yX12_ran, cX12_ran, 2, (some FieldType.int), 1, 1, 0, 12, 0, 0, 0),
  (yX12_isOn, cX12_isOn, 9, (some FieldType.boolean), 4, 1, 0, 12, 0, 0, 0),
  (yX12_findLine, cX12_findLine, 6, (some FieldType.boolean), 1, 1, 0, 12, 0, 0, 0),
  (yX12_line, cX12_line, 3, (some FieldType.int), 2, 1, 0, 12, 0, 0, 0),
  (yX12_yieldOf, cX12_yieldOf, 10, (some FieldType.int), 2, 1, 0, 12, 0, 0, 0),
  (yX12_yields, cX12_yields, 4, (some FieldType.int), 2, 1, 0, 12, 0, 0, 0),
  (yX12_topOf, cX12_topOf, 4, (some FieldType.int), 1, 1, 0, 12, 0, 0, 0),
  (yX12_top, cX12_top, 3, (some FieldType.int), 1, 1, 0, 12, 0, 0, 0),
  (yX12_breakOf, cX12_breakOf, 5, (some FieldType.int), 2, 1, 0, 12, 0, 0, 0),
  (yX12_breaks, cX12_breaks, 4, (some FieldType.int), 2, 1, 0, 12, 0, 0, 0),
  (yX12_spentOf, cX12_spentOf, 7, (some FieldType.long), 2, 1, 0, 12, 0, 0, 0),
  (yX12_spent, cX12_spent, 3, (some FieldType.long), 2, 1, 0, 12, 0, 0, 0)]
def mInfo_14 : List mE := [
  (yX12_numberOf, cX12_numberOf, 5, (some FieldType.int), 2, 1, 0, 12, 0, 0, 0),
  (yX12_isLaw, cX12_isLaw, 1, (some FieldType.boolean), 1, 0, 0, 12, 0, 0, 0),
  (yX12_number_, cX12_number_, 4, (some FieldType.int), 2, 1, 0, 12, 0, 0, 0),
  (yX12_adds, cX12_adds, 4, (none : Option FieldType), 2, 1, 0, 12, 0, 0, 0),
  (yX12_curveOf, cX12_curveOf, 8, (some FieldType.int), 2, 1, 0, 12, 0, 0, 0),
  (yX12_isLot, cX12_isLot, 1, (some FieldType.boolean), 1, 0, 0, 12, 0, 0, 0),
  (yX12_curve, cX12_curve, 6, (some FieldType.int), 3, 1, 0, 12, 0, 0, 0),
  (yX12_findNumbers, cX12_findNumbers, 5, (none : Option FieldType), 2, 1, 0, 12, 0, 0, 0),
  (yX12_odd, cX12_odd, 7, (some FieldType.int), 3, 1, 0, 12, 0, 0, 0),
  (yX12_rankOf, cX12_rankOf, 12, (some FieldType.int), 3, 0, 0, 12, 0, 0, 0),
  (yX12_areTenths, cX12_areTenths, 2, (some FieldType.boolean), 2, 0, 0, 12, 0, 0, 0),
  (yX12_sure, cX12_sure, 6, (some FieldType.int), 4, 1, 0, 12, 0, 0, 0),
  (yX12_few, cX12_few, 4, (some FieldType.int), 2, 1, 0, 12, 0, 0, 0),
  (yX12_isMeter, cX12_isMeter, 1, (some FieldType.boolean), 1, 0, 0, 12, 0, 0, 0),
  (yX12_meter, cX12_meter, 3, (some FieldType.int), 2, 1, 0, 12, 0, 0, 0),
  (yX12_prove, cX12_prove, 6, (some FieldType.int), 4, 1, 0, 12, 0, 0, 0)]
def mInfo_15 : List mE := [
  (yX12_ledOf, cX12_ledOf, 6, (some FieldType.int), 2, 1, 0, 12, 0, 0, 0),
  (yX12_led, cX12_led, 7, (some FieldType.int), 3, 1, 0, 12, 0, 0, 0),
  (yX12_entry, cX12_entry, 3, (some FieldType.int), 2, 1, 0, 12, 0, 0, 0),
  (yX12_enter, cX12_enter, 7, (some FieldType.int), 3, 1, 0, 12, 0, 0, 0),
  (yX12_entryIs, cX12_entryIs, 4, (some FieldType.int), 2, 1, 0, 12, 0, 0, 0),
  (yX12_back, cX12_back, 4, (some FieldType.int), 2, 1, 0, 12, 0, 0, 0),
  (yX12_book, cX12_book, 5, (some FieldType.int), 2, 1, 0, 12, 0, 0, 0),
  (yX12_hangs, cX12_hangs, 5, (some FieldType.int), 1, 1, 0, 12, 0, 0, 0),
  (yX12_plates, cX12_plates, 13, (some FieldType.int), 3, 1, 0, 12, 0, 0, 0),
  (yX12_drift, cX12_drift, 7, (some FieldType.int), 1, 1, 0, 12, 0, 0, 0),
  (yX12_began, cX12_began, 2, (none : Option FieldType), 1, 1, 0, 12, 0, 0, 0),
  (yX12_hasOwn, cX12_hasOwn, 2, (some FieldType.boolean), 2, 0, 0, 12, 0, 0, 0),
  (yX12_voiced, cX12_voiced, 3, (some FieldType.int), 2, 1, 0, 12, 0, 0, 0),
  (yX12_bodyFrom, cX12_bodyFrom, 5, (some FieldType.int), 3, 1, 0, 12, 0, 0, 0),
  (yX12_body, cX12_body, 6, (some FieldType.int), 3, 1, 0, 12, 0, 0, 0),
  (yX12_voice, cX12_voice, 5, (some FieldType.int), 3, 1, 0, 12, 0, 0, 0)]
def mInfo_16 : List mE := [
  (yX12_body_, cX12_body_, 2, (some FieldType.int), 1, 1, 0, 12, 0, 0, 0),
  (yX12_isSheet, cX12_isSheet, 1, (some FieldType.boolean), 1, 0, 0, 12, 0, 0, 0),
  (yX12_sheet, cX12_sheet, 5, (some FieldType.int), 3, 1, 0, 12, 0, 0, 0),
  (yX12_put, cX12_put, 4, (some FieldType.int), 3, 1, 0, 12, 0, 0, 0),
  (yX12_move, cX12_move, 7, (some FieldType.int), 5, 1, 0, 12, 0, 0, 0),
  (yX12_copy, cX12_copy, 3, (none : Option FieldType), 2, 0, 0, 12, 0, 0, 0),
  (yX12_image, cX12_image, 1, (some FieldType.int), 0, 1, 0, 12, 0, 0, 0),
  (yX12_restore, cX12_restore, 1, (some FieldType.int), 0, 1, 0, 12, 0, 0, 0),
  (yX12_tell, cX12_tell, 2, (some FieldType.int), 1, 1, 0, 12, 0, 0, 0),
  (yX12_check, cX12_check, 6, (some FieldType.int), 2, 1, 0, 12, 0, 0, 0),
  (yX12_count, cX12_count, 4, (some FieldType.int), 1, 1, 0, 12, 0, 0, 0),
  (yX12_told, cX12_told, 2, (some FieldType.int), 1, 1, 0, 12, 0, 0, 0),
  (yJ6_bitCount_0f7a4, cJ6_bitCount_0f7a4, 1, (some FieldType.int), 1, 0, 0, 17, 0, 0, 0),
  (yJ9_floorMod_7cf53, cJ9_floorMod_7cf53, 3, (some FieldType.int), 2, 0, 0, 18, 0, 0, 0),
  (yJ9_abs_0f7a4, cJ9_abs_0f7a4, 1, (some FieldType.int), 1, 0, 0, 18, 0, 0, 0),
  (yJ9_max_7cf53, cJ9_max_7cf53, 2, (some FieldType.int), 2, 0, 0, 18, 0, 0, 0)]
def mInfo_17 : List mE := [
  (yJ9_min_7cf53, cJ9_min_7cf53, 2, (some FieldType.int), 2, 0, 0, 18, 0, 0, 0),
  (yJ9_min_f86c9, cJ9_min_f86c9, 4, (some FieldType.long), 2, 0, 0, 18, 0, 0, 0),
  (yJ0_length_8abf5, cJ0_length_8abf5, 1, (some FieldType.int), 0, 1, 0, 14, 0, 0, 0),
  (yJ0_charAt_5068e, cJ0_charAt_5068e, 2, (some FieldType.char), 1, 1, 0, 14, 0, 0, 0),
  (yJ0_coder_7d493, cJ0_coder_7d493, 1, (some FieldType.byte), 0, 1, 0, 14, 0, 0, 0),
  (yJ0_isLatin1_aae02, cJ0_isLatin1_aae02, 1, (some FieldType.boolean), 0, 1, 0, 14, 0, 0, 0),
  (yJ0_checkIndex_df160, cJ0_checkIndex_df160, 2, (none : Option FieldType), 2, 0, 0, 14, 0, 0, 0),
  (yJ1_charAt_3b067, cJ1_charAt_3b067, 2, (some FieldType.char), 2, 0, 0, 15, 0, 0, 0),
  (yJ3_checkIndex_8e157, cJ3_checkIndex_8e157, 3, (some FieldType.int), 3, 0, 0, 16, 0, 0, 0),
  (x, code, 4, ret, 1, 0, 254, 13, 0, 0, 0)]
def mDef : mE := (x, code, 4, ret, 1, 0, 254, 13, 0, 0, 0)
def mIT : List (List mE) := [mInfo_0, mInfo_1, mInfo_2, mInfo_3, mInfo_4, mInfo_5, mInfo_6, mInfo_7, mInfo_8, mInfo_9, mInfo_10, mInfo_11, mInfo_12, mInfo_13, mInfo_14, mInfo_15, mInfo_16, mInfo_17]
def mIG : List (List mE) → Nat → List mE
  | [], _ => []
  | c :: _, 0 => c
  | _ :: t, i + 1 => mIG t i
def mIH : List mE → Nat → mE
  | [], _ => mDef
  | c :: _, 0 => c
  | _ :: t, i + 1 => mIH t i
def mI (k : Nat) : mE := mIH (mIG mIT (k / 16)) (k % 16)
def mY (k : Nat) : MethodName := (mI k).1
def mB (k : Nat) : ByteArray := (mI k).2.1
def mL (k : Nat) : Nat := (mI k).2.2.1
def mR (k : Nat) : Option FieldType := (mI k).2.2.2.1
def mN (k : Nat) : Nat := (mI k).2.2.2.2.1
def mK (k : Nat) : Nat := (mI k).2.2.2.2.2.1
def alc (k : Nat) : Nat := (mI k).2.2.2.2.2.2.1
def mO (k : Nat) : Nat := (mI k).2.2.2.2.2.2.2.1
def layT : List (List (Nat × Nat)) := [[(11, 11), (8, 12), (204, 14), (205, 4), (100, 5), (101, 64), (100, 4), (2, 4), (100, 6), (100, 6), (100, 6), (100, 6), (0, 7), (100, 20), (100, 20), (100, 20)],
  [(100, 20), (100, 20), (100, 20), (100, 48), (4, 6), (100, 12), (6, 6), (100, 24), (100, 24), (4, 6), (100, 12), (6, 6), (100, 24), (100, 24), (4, 6), (100, 12)],
  [(6, 6), (100, 24), (100, 24), (4, 6), (100, 12), (6, 6), (100, 24), (100, 24), (4, 6), (100, 12), (6, 6), (100, 24), (100, 24), (4, 6), (100, 12), (6, 6)],
  [(100, 24), (100, 24), (4, 6), (100, 12), (6, 6), (100, 24), (100, 24), (4, 6), (100, 12), (6, 6), (100, 24), (100, 24), (4, 6), (100, 12), (6, 6), (100, 24)],
  [(100, 24), (4, 6), (100, 12), (6, 6), (100, 24), (100, 24), (4, 6), (100, 12), (6, 6), (100, 24), (100, 24), (4, 6), (100, 12), (6, 6), (100, 24), (100, 24)],
  [(4, 6), (100, 12), (6, 6), (100, 24), (100, 24), (4, 6), (100, 12), (6, 6), (100, 24), (100, 24), (5, 5), (100, 32), (100, 32), (5, 5), (100, 32), (100, 32)],
  [(5, 5), (100, 32), (100, 32), (5, 5), (100, 32), (100, 32), (8, 12), (204, 14), (205, 4), (100, 5), (101, 64), (100, 4), (2, 4), (100, 6), (100, 6), (100, 6)],
  [(100, 6), (0, 7), (100, 20), (100, 20), (100, 20), (100, 20), (100, 20), (100, 20), (100, 48), (4, 6), (100, 12), (6, 6), (100, 24), (100, 24), (4, 6), (100, 12)],
  [(6, 6), (100, 24), (100, 24), (4, 6), (100, 12), (6, 6), (100, 24), (100, 24), (4, 6), (100, 12), (6, 6), (100, 24), (100, 24), (4, 6), (100, 12), (6, 6)],
  [(100, 24), (100, 24), (4, 6), (100, 12), (6, 6), (100, 24), (100, 24), (4, 6), (100, 12), (6, 6), (100, 24), (100, 24), (4, 6), (100, 12), (6, 6), (100, 24)],
  [(100, 24), (4, 6), (100, 12), (6, 6), (100, 24), (100, 24), (4, 6), (100, 12), (6, 6), (100, 24), (100, 24), (4, 6), (100, 12), (6, 6), (100, 24), (100, 24)],
  [(4, 6), (100, 12), (6, 6), (100, 24), (100, 24), (4, 6), (100, 12), (6, 6), (100, 24), (100, 24), (4, 6), (100, 12), (6, 6), (100, 24), (100, 24), (5, 5)],
  [(100, 32), (100, 32), (5, 5), (100, 32), (100, 32), (5, 5), (100, 32), (100, 32), (5, 5), (100, 32), (100, 32), (100, 7), (207, 4), (10, 8), (100, 30), (100, 30)],
  [(1, 15), (100, 6), (6, 6), (100, 24), (100, 24), (4, 6), (100, 12), (6, 6), (100, 24), (100, 24), (9, 4), (101, 0), (5, 5), (100, 32), (100, 32), (3, 3)],
  [(100, 14), (100, 14), (100, 1024), (7, 3), (100, 24), (7, 3), (100, 24), (7, 3), (100, 24), (7, 3), (100, 24), (12, 38), (100, 1340), (100, 1340), (100, 7), (100, 5)],
  [(299, 6), (100, 36), (100, 8), (100, 24), (100, 24), (100, 14), (100, 14), (100, 1024), (100, 1024), (100, 30), (100, 4), (100, 4), (100, 96), (100, 24)]]
def layG : List (List (Nat × Nat)) → Nat → List (Nat × Nat)
  | [], _ => []
  | c :: _, 0 => c
  | _ :: t, i + 1 => layG t i
def layH : List (Nat × Nat) → Nat → Nat × Nat
  | [], _ => (999, 0)
  | c :: _, 0 => c
  | _ :: t, i + 1 => layH t i
def lay (k : Nat) : Nat × Nat := layH (layG layT (k / 16)) (k % 16)
abbrev NP : Nat := 254
abbrev NX : Nat := 235
def frT : List (List Bool) := [[true, true, true, true, true, true, false], [true, true, true, false, false, false, false, false, false, false, false, false, false, false, false], [true, true, true, true], [true, true, false], [false, false, false, true, false, true], [false, true, true, false, false], [true, true, false, false, false, false], [false, false, true], [true, false, true, true, true, false, true, false, true, true, true, false], [true, false, false, false], [true, false, true, false, false, false, false, false], [true, true, false, true, true, true, true, true, true, true, true], [true, true, false, true, true, true, false, false, false, false, true, false, false, false, false, false, false, false, false, true, true, true, false, false, false, true, true, false, true, true, true, false, false, false, true, true, true, true]]
def frf (c j : Nat) : Bool := (frT.getD c []).getD j false
def oCs : List String := [RX0, RX1, RX2, RX3, RX4, RX5, RX6, RX7, RX8, RX9, RX10, RX11, RX12, "StrengthHouseLaw", RJ0, RJ1, RJ3, RJ6, RJ9, RJ10]
def oC (o : Nat) : String := oCs.getD o ""
def strL : List Nat := [4, 2, 4, 4, 4, 4, 4, 1, 1, 2, 4, 4, 4, 4, 4, 1, 1, 4]
def strB : List (List Int) := [[108, 97, 115, 116], [103, 111], [108, 111, 97, 100], [104, 111, 108, 100], [98, 97, 99, 107], [114, 101, 97, 100], [116, 105, 108, 108], [44], [59], [103, 111], [108, 111, 97, 100], [104, 111, 108, 100], [98, 97, 99, 107], [114, 101, 97, 100], [116, 105, 108, 108], [44], [59], [108, 97, 115, 116]]
def strO : List (String × Nat × String × Nat) := [("StrengthHouse$TextReader", 42, "last", 690), ("StrengthHouse$TextReader", 71, "go", 754), ("StrengthHouse$TextReader", 73, "load", 755), ("StrengthHouse$TextReader", 75, "hold", 756), ("StrengthHouse$TextReader", 77, "back", 757), ("StrengthHouse$TextReader", 79, "read", 758), ("StrengthHouse$TextReader", 81, "till", 759), ("StrengthHouse$TextReader", 52, ",", 768), ("StrengthHouse$TextReader", 54, ";", 769), ("StrengthHouseModel", 25, "go", 1264), ("StrengthHouseModel", 27, "load", 1265), ("StrengthHouseModel", 29, "hold", 1266), ("StrengthHouseModel", 31, "back", 1267), ("StrengthHouseModel", 33, "read", 1268), ("StrengthHouseModel", 35, "till", 1269), ("StrengthHouseModel", 180, ",", 1508), ("StrengthHouseModel", 182, ";", 1509), ("StrengthHouseModel", 184, "last", 1510)]
def aboveT : List Int := [-1, 0, 0, 1, 0, 2]
def bodiesT : List Int := [10, 11, 12, 13, 0, 20, 21, 0, 30, 0, 0, 31, 40, 0, 41, 0, 0, 0, 50, 0, 0, 60, 0, 61]
