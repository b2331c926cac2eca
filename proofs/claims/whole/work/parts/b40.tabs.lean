noncomputable section
/-! ===== the methods by number; what the tables say of them and of the constant pools ===== -/
noncomputable def gb_tabA0 : List (MethodName × ByteArray × Nat × Option FieldType × Nat × Nat × Nat × Nat) := [
  (yX6_at, cX6_at, 2, (some .int), 0, 0, 1, 6),
  (yX6_put, cX6_put, 3, none, 0, 0, 2, 6),
  (yX6_become, cX6_become, 3, none, 1, 0, 1, 6),
  (yJ0_length_8abf5, cJ0_length_8abf5, 1, (some .int), 2, 2, 0, 99),
  (yJ0_charAt_5068e, cJ0_charAt_5068e, 2, (some .char), 4, 2, 1, 99),
  (yX10_append, cX10_append, 3, none, 1, 0, 1, 10),
  (yX12_bring, cX12_bring, 3, none, 0, 0, 1, 12),
  (yX12_no, cX12_no, 2, (some .int), 0, 0, 1, 12),
  (yX12_appendText, cX12_appendText, 6, (some .int), 1, 0, 5, 12),
  (yX12_in, cX12_in, 6, (some .boolean), 0, 1, 3, 12),
  (yX12_truncateText, cX12_truncateText, 2, (some .int), 1, 0, 1, 12),
  (yX7_becomeEmpty, cX7_becomeEmpty, 1, none, 0, 0, 0, 7)]
noncomputable def gb_tabA1 : List (MethodName × ByteArray × Nat × Option FieldType × Nat × Nat × Nat × Nat) := [
  (yX10_afterBlanks, cX10_afterBlanks, 3, (some .int), 1, 0, 1, 10),
  (yX10_isLetter, cX10_isLetter, 1, (some .boolean), 0, 1, 1, 10),
  (yX10_isDigit, cX10_isDigit, 1, (some .boolean), 0, 1, 1, 10),
  (yJ9_min_7cf53, cJ9_min_7cf53, 2, (some .int), 0, 3, 2, 99),
  (yX10_afterDigits, cX10_afterDigits, 3, (some .int), 1, 0, 1, 10),
  (yX10_afterLetters, cX10_afterLetters, 3, (some .int), 1, 0, 1, 10),
  (yX10_next, cX10_next, 2, none, 2, 0, 0, 10),
  (yX10_begin, cX10_begin, 1, none, 3, 0, 0, 10),
  (yX10_isWord, cX10_isWord, 3, (some .boolean), 5, 0, 1, 10),
  (yX10_fail, cX10_fail, 3, (some .boolean), 0, 0, 2, 10),
  (yX8_fail, cX8_fail, 2, (some .boolean), 1, 0, 1, 8),
  (yX8_takeWord, cX8_takeWord, 2, (some .boolean), 6, 0, 1, 8)]
noncomputable def gb_tabA2 : List (MethodName × ByteArray × Nat × Option FieldType × Nat × Nat × Nat × Nat) := [
  (yX8_checkNumber, cX8_checkNumber, 3, (some .boolean), 2, 0, 2, 8),
  (yX8_takeNumber, cX8_takeNumber, 2, (some .int), 3, 0, 0, 8),
  (yX8_takeSemicolon, cX8_takeSemicolon, 1, (some .boolean), 3, 0, 0, 8),
  (yX8_readGrid, cX8_readGrid, 1, (some .boolean), 7, 0, 0, 8),
  (yX7_addSubject, cX7_addSubject, 2, none, 1, 0, 1, 7),
  (yX8_readSubjects, cX8_readSubjects, 2, (some .boolean), 7, 0, 0, 8),
  (yX7_addTeacher, cX7_addTeacher, 3, none, 1, 0, 2, 7),
  (yX11_hasBit, cX11_hasBit, 2, (some .boolean), 0, 1, 2, 11),
  (yX8_readTeacher, cX8_readTeacher, 4, (some .boolean), 4, 0, 0, 8),
  (yX8_readTeachers, cX8_readTeachers, 2, (some .boolean), 7, 0, 0, 8),
  (yX7_addRoom, cX7_addRoom, 2, none, 1, 0, 1, 7),
  (yX8_readRooms, cX8_readRooms, 2, (some .boolean), 7, 0, 0, 8)]
noncomputable def gb_tabA3 : List (MethodName × ByteArray × Nat × Option FieldType × Nat × Nat × Nat × Nat) := [
  (yX8_readClasses, cX8_readClasses, 1, (some .boolean), 7, 0, 0, 8),
  (yX7_slots, cX7_slots, 1, (some .int), 0, 0, 0, 7),
  (yX7_isTakenAtFirst, cX7_isTakenAtFirst, 5, (some .boolean), 1, 0, 3, 7),
  (yX8_checkUntaken, cX8_checkUntaken, 4, (some .boolean), 3, 0, 3, 8),
  (yX7_hasTeacher, cX7_hasTeacher, 2, (some .boolean), 0, 0, 1, 7),
  (yX7_isQualified, cX7_isQualified, 3, (some .boolean), 1, 0, 2, 7),
  (yX7_addLesson, cX7_addLesson, 6, none, 1, 0, 5, 7),
  (yX8_readLesson, cX8_readLesson, 5, (some .boolean), 4, 0, 0, 8),
  (yX8_readLessons, cX8_readLessons, 2, (some .boolean), 6, 0, 0, 8),
  (yX8_read, cX8_read, 1, (some .boolean), 8, 0, 0, 8),
  (yX7_become, cX7_become, 2, none, 2, 0, 1, 7),
  (yX7_dayOf, cX7_dayOf, 2, (some .int), 0, 0, 1, 7)]
noncomputable def gb_tabA4 : List (MethodName × ByteArray × Nat × Option FieldType × Nat × Nat × Nat × Nat) := [
  (yX3_isAway, cX3_isAway, 3, (some .boolean), 1, 0, 2, 3),
  (yX3_isAwayAt, cX3_isAwayAt, 3, (some .boolean), 2, 0, 2, 3),
  (yX3_returnToFirst, cX3_returnToFirst, 4, none, 3, 0, 0, 3),
  (yX3_begin, cX3_begin, 2, none, 4, 0, 0, 3),
  (yX1_forget, cX1_forget, 1, none, 0, 0, 0, 1),
  (yX11_parseSchool, cX11_parseSchool, 2, (some .int), 9, 0, 0, 11),
  (yX12_byteAt, cX12_byteAt, 2, (some .int), 0, 0, 1, 12),
  (yX12_isLetterAt, cX12_isLetterAt, 2, (some .boolean), 1, 0, 1, 12),
  (yX12_isDigitAt, cX12_isDigitAt, 2, (some .boolean), 1, 0, 1, 12),
  (yX12_next, cX12_next, 1, none, 2, 0, 0, 12),
  (yX12_begin, cX12_begin, 1, none, 3, 0, 0, 12),
  (yX12_isWord, cX12_isWord, 4, (some .boolean), 5, 0, 1, 12)]
noncomputable def gb_tabA5 : List (MethodName × ByteArray × Nat × Option FieldType × Nat × Nat × Nat × Nat) := [
  (yX12_goOn, cX12_goOn, 1, none, 3, 0, 0, 12),
  (yX12_wrong, cX12_wrong, 2, none, 0, 0, 1, 12),
  (yX12_must, cX12_must, 2, none, 6, 0, 1, 12),
  (yX12_digits, cX12_digits, 4, (some .long), 1, 0, 0, 12),
  (yX12_see, cX12_see, 3, (some .int), 2, 0, 2, 12),
  (yX12_number, cX12_number, 4, (some .int), 4, 0, 2, 12),
  (yX12_opensThing, cX12_opensThing, 3, (some .boolean), 4, 0, 2, 12),
  (yX12_readKinds, cX12_readKinds, 6, none, 7, 0, 4, 12),
  (yX12_has, cX12_has, 2, (some .boolean), 0, 1, 2, 12),
  (yX12_readTeachers, cX12_readTeachers, 4, none, 7, 0, 0, 12),
  (yX12_isThere, cX12_isThere, 6, (some .boolean), 0, 0, 3, 12),
  (yX12_readLesson, cX12_readLesson, 7, none, 7, 0, 0, 12)]
noncomputable def gb_tabA6 : List (MethodName × ByteArray × Nat × Option FieldType × Nat × Nat × Nat × Nat) := [
  (yX12_firstly, cX12_firstly, 2, none, 0, 0, 1, 12),
  (yX12_beginAnew, cX12_beginAnew, 2, none, 1, 0, 0, 12),
  (yX12_parseSchool, cX12_parseSchool, 2, (some .int), 8, 0, 0, 12),
  (yX1_baseOf, cX1_baseOf, 2, (some .int), 0, 0, 1, 1),
  (yX1_mark, cX1_mark, 3, none, 1, 0, 0, 1),
  (yX1_keepMarked, cX1_keepMarked, 1, none, 0, 0, 0, 1),
  (yX1_restoreMarked, cX1_restoreMarked, 3, none, 1, 0, 0, 1),
  (yX9_wordOf, cX9_wordOf, 1, (some (.object "java/lang/String")), 0, 1, 1, 9),
  (yX9_findStep, cX9_findStep, 2, (some .int), 6, 0, 0, 9),
  (yX9_numbersOf, cX9_numbersOf, 1, (some .int), 0, 1, 1, 9),
  (yX9_readStep, cX9_readStep, 3, (some .boolean), 7, 0, 0, 9),
  (yX7_hasDay, cX7_hasDay, 2, (some .boolean), 0, 0, 1, 7)]
noncomputable def gb_tabA7 : List (MethodName × ByteArray × Nat × Option FieldType × Nat × Nat × Nat × Nat) := [
  (yX3_makeOpen, cX3_makeOpen, 2, none, 1, 0, 1, 3),
  (yX2_letBeAbsent, cX2_letBeAbsent, 7, (some .int), 2, 0, 3, 2),
  (yX7_hasLesson, cX7_hasLesson, 2, (some .boolean), 0, 0, 1, 7),
  (yX3_isOpen, cX3_isOpen, 2, (some .boolean), 1, 0, 1, 3),
  (yX2_openAgain, cX2_openAgain, 2, (some .boolean), 2, 0, 1, 2),
  (yX0_presentAt, cX0_presentAt, 5, (some .int), 2, 0, 1, 0),
  (yX3_isTaught, cX3_isTaught, 2, (some .boolean), 1, 0, 1, 3),
  (yX7_qualifiedFor, cX7_qualifiedFor, 4, (some .int), 1, 0, 1, 7),
  (yX0_busyAt, cX0_busyAt, 5, (some .int), 2, 0, 2, 0),
  (yX3_loadOf, cX3_loadOf, 4, (some .int), 1, 0, 1, 3),
  (yX0_leastLoaded, cX0_leastLoaded, 6, (some .int), 2, 0, 1, 0),
  (yX0_successorsOf, cX0_successorsOf, 4, (some .int), 1, 0, 1, 0)]
noncomputable def gb_tabA8 : List (MethodName × ByteArray × Nat × Option FieldType × Nat × Nat × Nat × Nat) := [
  (yX0_thoseBefore, cX0_thoseBefore, 5, (some .int), 1, 0, 2, 0),
  (yX0_lowest, cX0_lowest, 3, (some .int), 1, 0, 1, 0),
  (yX0_choose, cX0_choose, 5, none, 2, 0, 1, 0),
  (yX0_find, cX0_find, 8, (some .int), 3, 0, 1, 0),
  (yX3_lessonAt, cX3_lessonAt, 5, (some .int), 1, 0, 3, 3),
  (yX3_letTeach, cX3_letTeach, 3, none, 1, 0, 2, 3),
  (yX2_repairByChain, cX2_repairByChain, 8, (some .boolean), 4, 0, 1, 2),
  (yX7_hasRoom, cX7_hasRoom, 2, (some .boolean), 0, 0, 1, 7),
  (yX4_againstRoom, cX4_againstRoom, 3, (some .int), 2, 0, 2, 4),
  (yX2_moveToRoom, cX2_moveToRoom, 3, (some .boolean), 3, 0, 2, 2),
  (yX7_hasSlot, cX7_hasSlot, 2, (some .boolean), 1, 0, 1, 7),
  (yX4_isBusy, cX4_isBusy, 3, (some .boolean), 2, 0, 2, 4)]
noncomputable def gb_tabA9 : List (MethodName × ByteArray × Nat × Option FieldType × Nat × Nat × Nat × Nat) := [
  (yX4_isTeacherAwayAt, cX4_isTeacherAwayAt, 3, (some .boolean), 3, 0, 2, 4),
  (yX4_againstMove, cX4_againstMove, 3, (some .int), 4, 0, 2, 4),
  (yX2_moveToSlot, cX2_moveToSlot, 3, (some .boolean), 5, 0, 2, 2),
  (yX4_isHeldByThird, cX4_isHeldByThird, 5, (some .boolean), 2, 0, 3, 4),
  (yX4_againstExchange, cX4_againstExchange, 3, (some .int), 4, 0, 2, 4),
  (yX2_swapSlots, cX2_swapSlots, 4, (some .boolean), 5, 0, 2, 2),
  (yX3_isSupervised, cX3_isSupervised, 2, (some .boolean), 1, 0, 1, 3),
  (yX3_dutiesOn, cX3_dutiesOn, 5, (some .int), 2, 0, 2, 3),
  (yX4_againstSupervision, cX4_againstSupervision, 4, (some .int), 3, 0, 2, 4),
  (yX3_letWatch, cX3_letWatch, 3, none, 1, 0, 2, 3),
  (yX2_letSupervise, cX2_letSupervise, 3, (some .boolean), 4, 0, 2, 2),
  (yX4_againstCover, cX4_againstCover, 4, (some .int), 3, 0, 2, 4)]
noncomputable def gb_tabA10 : List (MethodName × ByteArray × Nat × Option FieldType × Nat × Nat × Nat × Nat) := [
  (yX2_letCover, cX2_letCover, 3, (some .boolean), 4, 0, 2, 2),
  (yX2_repairOpenLessons, cX2_repairOpenLessons, 3, (some .int), 5, 0, 0, 2),
  (yX2_perform, cX2_perform, 4, (some .boolean), 6, 0, 3, 2),
  (yX11_runScript, cX11_runScript, 4, (some .int), 8, 0, 0, 11),
  (yX12_copyRow, cX12_copyRow, 3, none, 0, 1, 2, 12),
  (yX12_push, cX12_push, 2, none, 0, 0, 0, 12),
  (yX12_stepHere, cX12_stepHere, 1, (some .int), 6, 0, 0, 12),
  (yX12_figure, cX12_figure, 2, (some .int), 4, 0, 0, 12),
  (yX12_isLesson, cX12_isLesson, 2, (some .boolean), 1, 0, 1, 12),
  (yX12_isOpen, cX12_isOpen, 2, (some .boolean), 0, 0, 1, 12),
  (yX12_isRoom, cX12_isRoom, 2, (some .boolean), 1, 0, 1, 12),
  (yX12_lessonWith, cX12_lessonWith, 7, (some .int), 0, 0, 5, 12)]
noncomputable def gb_tabA11 : List (MethodName × ByteArray × Nat × Option FieldType × Nat × Nat × Nat × Nat) := [
  (yX12_reasonForRoom, cX12_reasonForRoom, 3, (some .int), 1, 0, 2, 12),
  (yX12_slots, cX12_slots, 1, (some .int), 0, 0, 0, 12),
  (yX12_isSlot, cX12_isSlot, 2, (some .boolean), 1, 0, 1, 12),
  (yX12_ofClass, cX12_ofClass, 4, (some .int), 0, 0, 2, 12),
  (yX12_ofTeacher, cX12_ofTeacher, 3, (some .int), 1, 0, 2, 12),
  (yX12_dayOf, cX12_dayOf, 2, (some .int), 0, 0, 1, 12),
  (yX12_isAbsent, cX12_isAbsent, 3, (some .boolean), 1, 0, 2, 12),
  (yX12_reasonToMove, cX12_reasonToMove, 4, (some .int), 2, 0, 2, 12),
  (yX12_isElsewhere, cX12_isElsewhere, 4, (some .boolean), 1, 0, 3, 12),
  (yX12_reasonToExchange, cX12_reasonToExchange, 3, (some .int), 2, 0, 2, 12),
  (yX12_isQualified, cX12_isQualified, 3, (some .boolean), 1, 0, 2, 12),
  (yX12_isOnWay, cX12_isOnWay, 5, (some .boolean), 0, 0, 2, 12)]
noncomputable def gb_tabA12 : List (MethodName × ByteArray × Nat × Option FieldType × Nat × Nat × Nat × Nat) := [
  (yX12_isTaught, cX12_isTaught, 2, (some .boolean), 1, 0, 1, 12),
  (yX12_taughtBy, cX12_taughtBy, 4, (some .int), 2, 0, 1, 12),
  (yX12_firstBy, cX12_firstBy, 4, (some .int), 0, 0, 1, 12),
  (yX12_loadOf, cX12_loadOf, 2, (some .int), 3, 0, 1, 12),
  (yX12_goes, cX12_goes, 9, none, 4, 0, 4, 12),
  (yX12_goes, cX12_goes, 9, none, 5, 0, 4, 12),
  (yX12_goes, cX12_goes, 9, none, 6, 0, 4, 12),
  (yX12_goes, cX12_goes, 9, none, 7, 0, 4, 12),
  (yX12_findChain, cX12_findChain, 3, (some .int), 8, 0, 1, 12),
  (yX12_isTeacher, cX12_isTeacher, 2, (some .boolean), 1, 0, 1, 12),
  (yX12_dutiesOf, cX12_dutiesOf, 6, (some .int), 1, 0, 2, 12),
  (yX12_reasonToWatch, cX12_reasonToWatch, 4, (some .int), 2, 0, 2, 12)]
noncomputable def gb_tabA13 : List (MethodName × ByteArray × Nat × Option FieldType × Nat × Nat × Nat × Nat) := [
  (yX12_reasonToCover, cX12_reasonToCover, 4, (some .int), 4, 0, 2, 12),
  (yX12_isDay, cX12_isDay, 2, (some .boolean), 1, 0, 1, 12),
  (yX12_canStep, cX12_canStep, 4, (some .boolean), 9, 0, 3, 12),
  (yX12_opens, cX12_opens, 2, none, 0, 0, 1, 12),
  (yX12_swaps, cX12_swaps, 4, none, 0, 0, 2, 12),
  (yX12_chains, cX12_chains, 6, none, 2, 0, 1, 12),
  (yX12_repairsAll, cX12_repairsAll, 3, (some .int), 9, 0, 0, 12),
  (yX12_gives, cX12_gives, 4, none, 0, 0, 3, 12),
  (yX12_absents, cX12_absents, 7, (some .int), 1, 0, 3, 12),
  (yX12_doStep, cX12_doStep, 4, none, 10, 0, 3, 12),
  (yX12_goesThrough, cX12_goesThrough, 6, none, 11, 0, 0, 12),
  (yX12_runScript, cX12_runScript, 2, (some .int), 12, 0, 0, 12)]
noncomputable def gb_tabA14 : List (MethodName × ByteArray × Nat × Option FieldType × Nat × Nat × Nat × Nat) := [
  (yX11_errorCode, cX11_errorCode, 1, (some .int), 0, 0, 0, 11),
  (yX12_errorCode, cX12_errorCode, 1, (some .int), 0, 0, 0, 12),
  (yX11_errorPosition, cX11_errorPosition, 1, (some .int), 0, 0, 0, 11),
  (yX12_errorPosition, cX12_errorPosition, 1, (some .int), 0, 0, 0, 12),
  (yX12_fails, cX12_fails, 3, (some .boolean), 0, 0, 2, 12),
  (yX12_remember, cX12_remember, 1, none, 1, 0, 0, 12),
  (yX12_setAbsent, cX12_setAbsent, 4, (some .int), 2, 0, 3, 12),
  (yX12_cover, cX12_cover, 3, (some .int), 5, 0, 2, 12),
  (yX3_dutiesOf, cX3_dutiesOf, 4, (some .int), 2, 0, 1, 3),
  (yX12_supervise, cX12_supervise, 3, (some .int), 3, 0, 2, 12),
  (yX12_repair, cX12_repair, 2, (some .int), 9, 0, 1, 12),
  (yX11_repairAll, cX11_repairAll, 2, (some .int), 6, 0, 0, 11)]
noncomputable def gb_tabA15 : List (MethodName × ByteArray × Nat × Option FieldType × Nat × Nat × Nat × Nat) := [
  (yX12_repairAll, cX12_repairAll, 1, (some .int), 10, 0, 0, 12),
  (yX12_exchange, cX12_exchange, 3, (some .int), 3, 0, 2, 12),
  (yX12_move, cX12_move, 4, (some .int), 3, 0, 2, 12),
  (yX12_setRoom, cX12_setRoom, 4, (some .int), 2, 0, 2, 12),
  (yX12_reopen, cX12_reopen, 3, (some .int), 2, 0, 1, 12),
  (yX3_differs, cX3_differs, 2, (some .boolean), 2, 0, 1, 3),
  (yX3_differingLessons, cX3_differingLessons, 3, (some .int), 3, 0, 0, 3),
  (yX11_reset, cX11_reset, 2, (some .int), 4, 0, 0, 11),
  (yX12_differs, cX12_differs, 2, (some .boolean), 0, 0, 1, 12),
  (yX12_differences, cX12_differences, 3, (some .int), 1, 0, 0, 12),
  (yX12_reset, cX12_reset, 3, (some .int), 2, 0, 0, 12),
  (yX12_whyNotCover, cX12_whyNotCover, 3, (some .int), 5, 0, 2, 12)]
noncomputable def gb_tabA16 : List (MethodName × ByteArray × Nat × Option FieldType × Nat × Nat × Nat × Nat) := [
  (yX12_whyNotSupervise, cX12_whyNotSupervise, 3, (some .int), 3, 0, 2, 12),
  (yX12_whyNotExchange, cX12_whyNotExchange, 3, (some .int), 3, 0, 2, 12),
  (yX12_whyNotMove, cX12_whyNotMove, 3, (some .int), 3, 0, 2, 12),
  (yX12_whyNotRoom, cX12_whyNotRoom, 3, (some .int), 2, 0, 2, 12),
  (yX12_candidates, cX12_candidates, 4, (some .int), 5, 0, 1, 12),
  (yX12_chain, cX12_chain, 2, (some .int), 9, 0, 1, 12),
  (yX12_chainTeacher, cX12_chainTeacher, 3, (some .int), 9, 0, 2, 12),
  (yX12_partnerOf, cX12_partnerOf, 5, (some .int), 3, 0, 2, 12),
  (yX12_partners, cX12_partners, 2, (some .int), 4, 0, 1, 12),
  (yX12_firstPartner, cX12_firstPartner, 3, (some .int), 4, 0, 1, 12),
  (yX12_slotsFor, cX12_slotsFor, 4, (some .int), 3, 0, 1, 12),
  (yX7_lessonsWith, cX7_lessonsWith, 5, (some .int), 1, 0, 2, 7)]
noncomputable def gb_tabA17 : List (MethodName × ByteArray × Nat × Option FieldType × Nat × Nat × Nat × Nat) := [
  (yX3_supervisedLessons, cX3_supervisedLessons, 1, (some .int), 2, 0, 0, 3),
  (yX3_openLessons, cX3_openLessons, 1, (some .int), 2, 0, 0, 3),
  (yX12_watchedMany, cX12_watchedMany, 3, (some .int), 0, 0, 0, 12),
  (yX12_openMany, cX12_openMany, 3, (some .int), 1, 0, 0, 12),
  (yX12_count, cX12_count, 2, (some .int), 2, 0, 1, 12),
  (yX12_lesson, cX12_lesson, 3, (some .int), 2, 0, 2, 12),
  (yX3_taughtBy, cX3_taughtBy, 4, (some .int), 1, 0, 1, 3),
  (yX12_teacher, cX12_teacher, 3, (some .int), 4, 0, 2, 12),
  (yX12_room, cX12_room, 5, (some .int), 2, 0, 2, 12),
  (yX12_subject, cX12_subject, 6, (some .int), 1, 0, 2, 12),
  (yX12_isClass, cX12_isClass, 2, (some .boolean), 1, 0, 1, 12),
  (yX12_lessonOfClass, cX12_lessonOfClass, 3, (some .int), 2, 0, 2, 12)]
noncomputable def gb_tabA18 : List (MethodName × ByteArray × Nat × Option FieldType × Nat × Nat × Nat × Nat) := [
  (yX12_lessonOfTeacher, cX12_lessonOfTeacher, 3, (some .int), 2, 0, 2, 12),
  (yX12_lessonInRoom, cX12_lessonInRoom, 3, (some .int), 2, 0, 2, 12),
  (yX12_freeTeachers, cX12_freeTeachers, 4, (some .int), 2, 0, 1, 12),
  (yX12_freeRooms, cX12_freeRooms, 5, (some .int), 2, 0, 2, 12),
  (yX12_lessonAt, cX12_lessonAt, 5, (some .int), 1, 0, 2, 12),
  (yX12_openLesson, cX12_openLesson, 3, (some .int), 2, 0, 1, 12),
  (yX12_difference, cX12_difference, 3, (some .int), 2, 0, 1, 12),
  (yX3_windowsOf, cX3_windowsOf, 8, (some .int), 2, 0, 3, 3),
  (yX12_gapsIn, cX12_gapsIn, 4, (some .int), 1, 0, 1, 12),
  (yX12_windows, cX12_windows, 5, (some .int), 2, 0, 2, 12),
  (yX12_classWindows, cX12_classWindows, 5, (some .int), 2, 0, 2, 12),
  (yJ9_max_7cf53, cJ9_max_7cf53, 2, (some .int), 0, 3, 2, 99)]
noncomputable def gb_tabA19 : List (MethodName × ByteArray × Nat × Option FieldType × Nat × Nat × Nat × Nat) := [
  (yX11_spread, cX11_spread, 6, (some .int), 2, 0, 0, 11),
  (yX12_spread, cX12_spread, 4, (some .int), 4, 0, 0, 12),
  (yX3_taughtLessons, cX3_taughtLessons, 1, (some .int), 3, 0, 0, 3),
  (yX11_taughtShare, cX11_taughtShare, 1, (some .double), 4, 0, 0, 11),
  (yX12_taughtShare, cX12_taughtShare, 2, (some .double), 2, 0, 0, 12),
  (yX5_append, cX5_append, 2, none, 1, 0, 1, 5),
  (yX5_writeLesson, cX5_writeLesson, 2, none, 2, 0, 1, 5),
  (yX5_write, cX5_write, 4, none, 3, 0, 1, 5),
  (yX12_print, cX12_print, 2, none, 0, 0, 1, 12),
  (yX12_printLesson, cX12_printLesson, 2, none, 1, 0, 1, 12),
  (yX12_writeReport, cX12_writeReport, 3, (some .int), 2, 0, 1, 12),
  (yX12_reportByte, cX12_reportByte, 2, (some .int), 1, 0, 1, 12)]
noncomputable def gb_tabA20 : List (MethodName × ByteArray × Nat × Option FieldType × Nat × Nat × Nat × Nat) := [
  (yX1_restoreLatest, cX1_restoreLatest, 1, none, 2, 0, 0, 1),
  (yX12_undo, cX12_undo, 2, (some .int), 1, 0, 0, 12),
  (yX11_undoDepth, cX11_undoDepth, 1, (some .int), 0, 0, 0, 11),
  (yX12_undoDepth, cX12_undoDepth, 1, (some .int), 0, 0, 0, 12),
  (yX12_thrown, cX12_thrown, 1, (some .int), 0, 0, 0, 12),
  (yX7_becomeSample, cX7_becomeSample, 1, none, 2, 0, 0, 7)]
noncomputable def gb_tabA : List (MethodName × ByteArray × Nat × Option FieldType × Nat × Nat × Nat × Nat) := gb_tabA0 ++ (gb_tabA1 ++ (gb_tabA2 ++ (gb_tabA3 ++ (gb_tabA4 ++ (gb_tabA5 ++ (gb_tabA6 ++ (gb_tabA7 ++ (gb_tabA8 ++ (gb_tabA9 ++ (gb_tabA10 ++ (gb_tabA11 ++ (gb_tabA12 ++ (gb_tabA13 ++ (gb_tabA14 ++ (gb_tabA15 ++ (gb_tabA16 ++ (gb_tabA17 ++ (gb_tabA18 ++ (gb_tabA19 ++ (gb_tabA20))))))))))))))))))))
noncomputable def gb_tabB0 : List (MethodName × ByteArray × Nat × Option FieldType × Nat × Nat × Nat × Nat) := [
  (yX11_appendText, cX11_appendText, 6, (some .int), 2, 0, 5, 11),
  (yX11_truncateText, cX11_truncateText, 2, (some .int), 0, 0, 1, 11),
  (yX11_requireTeacher, cX11_requireTeacher, 2, none, 1, 0, 1, 11),
  (yX11_requireDay, cX11_requireDay, 2, none, 1, 0, 1, 11),
  (yX11_setAbsent, cX11_setAbsent, 5, (some .int), 3, 0, 3, 11),
  (yX11_requireLesson, cX11_requireLesson, 2, none, 1, 0, 1, 11),
  (yX11_keepUnlessRefused, cX11_keepUnlessRefused, 2, none, 1, 0, 1, 11),
  (yX11_cover, cX11_cover, 3, (some .int), 5, 0, 2, 11),
  (yX11_supervise, cX11_supervise, 3, (some .int), 5, 0, 2, 11),
  (yX11_repair, cX11_repair, 2, (some .int), 5, 0, 1, 11),
  (yX11_exchange, cX11_exchange, 3, (some .int), 6, 0, 2, 11),
  (yX11_requireSlot, cX11_requireSlot, 2, none, 2, 0, 1, 11)]
noncomputable def gb_tabB1 : List (MethodName × ByteArray × Nat × Option FieldType × Nat × Nat × Nat × Nat) := [
  (yX11_move, cX11_move, 4, (some .int), 6, 0, 2, 11),
  (yX11_requireRoom, cX11_requireRoom, 2, none, 1, 0, 1, 11),
  (yX11_setRoom, cX11_setRoom, 4, (some .int), 4, 0, 2, 11),
  (yX11_reopen, cX11_reopen, 3, (some .int), 3, 0, 1, 11),
  (yX11_whyNotCover, cX11_whyNotCover, 3, (some .int), 4, 0, 2, 11),
  (yX11_whyNotSupervise, cX11_whyNotSupervise, 3, (some .int), 4, 0, 2, 11),
  (yX11_whyNotExchange, cX11_whyNotExchange, 3, (some .int), 5, 0, 2, 11),
  (yX11_whyNotMove, cX11_whyNotMove, 3, (some .int), 5, 0, 2, 11),
  (yX11_whyNotRoom, cX11_whyNotRoom, 3, (some .int), 3, 0, 2, 11),
  (yX11_candidates, cX11_candidates, 4, (some .int), 4, 0, 1, 11),
  (yX11_chain, cX11_chain, 2, (some .int), 4, 0, 1, 11),
  (yX11_chainTeacher, cX11_chainTeacher, 4, (some .int), 4, 0, 2, 11)]
noncomputable def gb_tabB2 : List (MethodName × ByteArray × Nat × Option FieldType × Nat × Nat × Nat × Nat) := [
  (yX11_partners, cX11_partners, 4, (some .int), 5, 0, 1, 11),
  (yX11_firstPartner, cX11_firstPartner, 3, (some .int), 5, 0, 1, 11),
  (yX11_slotsFor, cX11_slotsFor, 4, (some .int), 5, 0, 1, 11),
  (yX11_count, cX11_count, 2, (some .int), 4, 0, 1, 11),
  (yX11_lesson, cX11_lesson, 3, (some .int), 3, 0, 2, 11),
  (yX11_teacher, cX11_teacher, 3, (some .int), 3, 0, 2, 11),
  (yX11_room, cX11_room, 3, (some .int), 2, 0, 2, 11),
  (yX11_subject, cX11_subject, 3, (some .int), 2, 0, 2, 11),
  (yX11_requireClass, cX11_requireClass, 2, none, 0, 0, 1, 11),
  (yX11_lessonOfClass, cX11_lessonOfClass, 3, (some .int), 3, 0, 2, 11),
  (yX11_lessonOfTeacher, cX11_lessonOfTeacher, 3, (some .int), 3, 0, 2, 11),
  (yX11_lessonInRoom, cX11_lessonInRoom, 3, (some .int), 3, 0, 2, 11)]
noncomputable def gb_tabB3 : List (MethodName × ByteArray × Nat × Option FieldType × Nat × Nat × Nat × Nat) := [
  (yX11_freeTeachers, cX11_freeTeachers, 4, (some .int), 3, 0, 1, 11),
  (yX11_freeRooms, cX11_freeRooms, 5, (some .int), 3, 0, 2, 11),
  (yX11_openLesson, cX11_openLesson, 4, (some .int), 2, 0, 1, 11),
  (yX11_difference, cX11_difference, 4, (some .int), 3, 0, 1, 11),
  (yX11_windows, cX11_windows, 3, (some .int), 3, 0, 2, 11),
  (yX11_classWindows, cX11_classWindows, 3, (some .int), 3, 0, 2, 11),
  (yX11_writeReport, cX11_writeReport, 2, (some .int), 4, 0, 1, 11),
  (yX11_reportByte, cX11_reportByte, 2, (some .int), 1, 0, 1, 11),
  (yX11_undo, cX11_undo, 1, (some .int), 3, 0, 0, 11),
  (yL_appendText, cL_appendText, 8, (some .int), 3, 1, 7, 99),
  (yL_truncateText, cL_truncateText, 4, (some .int), 1, 1, 3, 99),
  (yL_setAbsent, cL_setAbsent, 6, (some .int), 4, 1, 5, 99)]
noncomputable def gb_tabB4 : List (MethodName × ByteArray × Nat × Option FieldType × Nat × Nat × Nat × Nat) := [
  (yL_cover, cL_cover, 5, (some .int), 6, 1, 4, 99),
  (yL_supervise, cL_supervise, 5, (some .int), 6, 1, 4, 99),
  (yL_repair, cL_repair, 4, (some .int), 6, 1, 3, 99),
  (yL_exchange, cL_exchange, 5, (some .int), 7, 1, 4, 99),
  (yL_move, cL_move, 5, (some .int), 7, 1, 4, 99),
  (yL_setRoom, cL_setRoom, 5, (some .int), 5, 1, 4, 99),
  (yL_reopen, cL_reopen, 4, (some .int), 4, 1, 3, 99),
  (yL_whyNotCover, cL_whyNotCover, 5, (some .int), 5, 1, 4, 99),
  (yL_whyNotSupervise, cL_whyNotSupervise, 5, (some .int), 5, 1, 4, 99),
  (yL_whyNotExchange, cL_whyNotExchange, 5, (some .int), 6, 1, 4, 99),
  (yL_whyNotMove, cL_whyNotMove, 5, (some .int), 6, 1, 4, 99),
  (yL_whyNotRoom, cL_whyNotRoom, 5, (some .int), 4, 1, 4, 99)]
noncomputable def gb_tabB5 : List (MethodName × ByteArray × Nat × Option FieldType × Nat × Nat × Nat × Nat) := [
  (yL_candidates, cL_candidates, 4, (some .int), 5, 1, 3, 99),
  (yL_chain, cL_chain, 4, (some .int), 5, 1, 3, 99),
  (yL_chainTeacher, cL_chainTeacher, 5, (some .int), 5, 1, 4, 99),
  (yL_partners, cL_partners, 4, (some .int), 6, 1, 3, 99),
  (yL_firstPartner, cL_firstPartner, 4, (some .int), 6, 1, 3, 99),
  (yL_slotsFor, cL_slotsFor, 4, (some .int), 6, 1, 3, 99),
  (yL_count, cL_count, 4, (some .int), 5, 1, 3, 99),
  (yL_lesson, cL_lesson, 5, (some .int), 4, 1, 4, 99),
  (yL_teacher, cL_teacher, 5, (some .int), 4, 1, 4, 99),
  (yL_room, cL_room, 5, (some .int), 3, 1, 4, 99),
  (yL_subject, cL_subject, 5, (some .int), 3, 1, 4, 99),
  (yL_lessonOfClass, cL_lessonOfClass, 5, (some .int), 4, 1, 4, 99)]
noncomputable def gb_tabB6 : List (MethodName × ByteArray × Nat × Option FieldType × Nat × Nat × Nat × Nat) := [
  (yL_lessonOfTeacher, cL_lessonOfTeacher, 5, (some .int), 4, 1, 4, 99),
  (yL_lessonInRoom, cL_lessonInRoom, 5, (some .int), 4, 1, 4, 99),
  (yL_freeTeachers, cL_freeTeachers, 4, (some .int), 4, 1, 3, 99),
  (yL_freeRooms, cL_freeRooms, 5, (some .int), 4, 1, 4, 99),
  (yL_openLesson, cL_openLesson, 4, (some .int), 3, 1, 3, 99),
  (yL_difference, cL_difference, 4, (some .int), 4, 1, 3, 99),
  (yL_windows, cL_windows, 5, (some .int), 4, 1, 4, 99),
  (yL_classWindows, cL_classWindows, 5, (some .int), 4, 1, 4, 99),
  (yL_writeReport, cL_writeReport, 4, (some .int), 5, 1, 3, 99),
  (yL_reportByte, cL_reportByte, 4, (some .int), 2, 1, 3, 99),
  (yL_undo, cL_undo, 3, (some .int), 4, 1, 2, 99)]
noncomputable def gb_tabB : List (MethodName × ByteArray × Nat × Option FieldType × Nat × Nat × Nat × Nat) := gb_tabB0 ++ (gb_tabB1 ++ (gb_tabB2 ++ (gb_tabB3 ++ (gb_tabB4 ++ (gb_tabB5 ++ (gb_tabB6))))))
def gb_tb (mid : Nat) : MethodName × ByteArray × Nat × Option FieldType × Nat × Nat × Nat × Nat := bif Nat.blt mid 400 then gb_tabA.getD (mid - 1) (⟨"", "", ""⟩, ⟨#[]⟩, 0, none, 0, 9, 0, 99) else gb_tabB.getD (mid - 400) (⟨"", "", ""⟩, ⟨#[]⟩, 0, none, 0, 9, 0, 99)
def gb_y (mid : Nat) : MethodName := (gb_tb mid).1
def gb_b (mid : Nat) : ByteArray := (gb_tb mid).2.1
def gb_n (mid : Nat) : Nat := (gb_tb mid).2.2.1
def gb_r (mid : Nat) : Option FieldType := (gb_tb mid).2.2.2.1
def gb_lv (mid : Nat) : Nat := (gb_tb mid).2.2.2.2.1
def gb_ki (mid : Nat) : Nat := (gb_tb mid).2.2.2.2.2.1
def gb_ar (mid : Nat) : Nat := (gb_tb mid).2.2.2.2.2.2.1
def gb_ci (mid : Nat) : Nat := (gb_tb mid).2.2.2.2.2.2.2
section GB8
theorem gb_wt {w : Cond} (h : w ∈ tables_1) (g : goodWord w = true) : w ∈ gb_good := List.mem_filter.mpr ⟨List.mem_append_right _ h, g⟩
theorem gb_w1 (i : Nat) {w : Cond} (h : tables_1_1[i]? = some w) (g : goodWord w = true) : w ∈ gb_good := gb_wt (List.mem_append_left _ (List.mem_of_getElem? h)) g
theorem gb_w2 (i : Nat) {w : Cond} (h : tables_1_2[i]? = some w) (g : goodWord w = true) : w ∈ gb_good := gb_wt (List.mem_append_right _ (List.mem_append_left _ (List.mem_of_getElem? h))) g
theorem gb_w3 (i : Nat) {w : Cond} (h : tables_1_3[i]? = some w) (g : goodWord w = true) : w ∈ gb_good := gb_wt (List.mem_append_right _ (List.mem_append_right _ (List.mem_append_left _ (List.mem_of_getElem? h)))) g
theorem gb_w4 (i : Nat) {w : Cond} (h : tables_1_4[i]? = some w) (g : goodWord w = true) : w ∈ gb_good := gb_wt (List.mem_append_right _ (List.mem_append_right _ (List.mem_append_right _ (List.mem_append_left _ (List.mem_of_getElem? h))))) g
theorem gb_w5 (i : Nat) {w : Cond} (h : tables_1_5[i]? = some w) (g : goodWord w = true) : w ∈ gb_good := gb_wt (List.mem_append_right _ (List.mem_append_right _ (List.mem_append_right _ (List.mem_append_right _ (List.mem_append_left _ (List.mem_of_getElem? h)))))) g
theorem gb_w6 (i : Nat) {w : Cond} (h : tables_1_6[i]? = some w) (g : goodWord w = true) : w ∈ gb_good := gb_wt (List.mem_append_right _ (List.mem_append_right _ (List.mem_append_right _ (List.mem_append_right _ (List.mem_append_right _ (List.mem_append_left _ (List.mem_of_getElem? h))))))) g
theorem gb_w7 (i : Nat) {w : Cond} (h : tables_1_7[i]? = some w) (g : goodWord w = true) : w ∈ gb_good := gb_wt (List.mem_append_right _ (List.mem_append_right _ (List.mem_append_right _ (List.mem_append_right _ (List.mem_append_right _ (List.mem_append_right _ (List.mem_append_left _ (List.mem_of_getElem? h)))))))) g
theorem gb_w8 (i : Nat) {w : Cond} (h : tables_1_8[i]? = some w) (g : goodWord w = true) : w ∈ gb_good := gb_wt (List.mem_append_right _ (List.mem_append_right _ (List.mem_append_right _ (List.mem_append_right _ (List.mem_append_right _ (List.mem_append_right _ (List.mem_append_right _ (List.mem_append_left _ (List.mem_of_getElem? h))))))))) g
theorem gb_w9 (i : Nat) {w : Cond} (h : tables_1_9[i]? = some w) (g : goodWord w = true) : w ∈ gb_good := gb_wt (List.mem_append_right _ (List.mem_append_right _ (List.mem_append_right _ (List.mem_append_right _ (List.mem_append_right _ (List.mem_append_right _ (List.mem_append_right _ (List.mem_append_right _ (List.mem_of_getElem? h))))))))) g
/-- a method's words -/
def gb_Tb (mid : Nat) : Prop := Cond.code (gb_y mid) (gb_b mid) (gb_n mid) (gb_r mid) ∈ gb_good ∧ Cond.initialized (gb_y mid).cls ∈ gb_good ∧ ((gb_y mid).cls ≠ "java/lang/invoke/MethodHandle" ∧ (gb_y mid).cls ≠ "java/lang/invoke/VarHandle") ∧ (parseMethodDescriptor (gb_y mid).desc).map (fun d => d.parameters.length) = some (gb_ar mid) ∧ gb_n mid ≤ 30 ∧
  (gb_ki mid = 0 → Cond.instanceMethod (gb_y mid) ∈ gb_good ∧ Cond.selects (gb_y mid).cls (gb_y mid) (gb_y mid) ∈ gb_good ∧ ∃ T N, vwCl[gb_ci mid]? = some ((gb_y mid).cls, T, N)) ∧ (gb_ki mid = 1 → Cond.static (gb_y mid) ∈ gb_good) ∧
  (gb_ki mid = 2 → Cond.instanceMethod (gb_y mid) ∈ gb_good ∧ Cond.selects (gb_y mid).cls (gb_y mid) (gb_y mid) ∈ gb_good ∧ (gb_y mid).cls = "java/lang/String")
def gb_Nm (C : String) : Prop := C ≠ "java/lang/invoke/MethodHandle" ∧ C ≠ "java/lang/invoke/VarHandle"
theorem gb_nmJ0 : gb_Nm RJ0 := by unfold gb_Nm; decide +kernel
theorem gb_nmJ9 : gb_Nm RJ9 := by unfold gb_Nm; decide +kernel
theorem gb_nmL : gb_Nm RL := by unfold gb_Nm; decide +kernel
theorem gb_nmX0 : gb_Nm RX0 := by unfold gb_Nm; decide +kernel
theorem gb_nmX1 : gb_Nm RX1 := by unfold gb_Nm; decide +kernel
theorem gb_nmX10 : gb_Nm RX10 := by unfold gb_Nm; decide +kernel
theorem gb_nmX11 : gb_Nm RX11 := by unfold gb_Nm; decide +kernel
theorem gb_nmX12 : gb_Nm RX12 := by unfold gb_Nm; decide +kernel
theorem gb_nmX2 : gb_Nm RX2 := by unfold gb_Nm; decide +kernel
theorem gb_nmX3 : gb_Nm RX3 := by unfold gb_Nm; decide +kernel
theorem gb_nmX4 : gb_Nm RX4 := by unfold gb_Nm; decide +kernel
theorem gb_nmX5 : gb_Nm RX5 := by unfold gb_Nm; decide +kernel
theorem gb_nmX6 : gb_Nm RX6 := by unfold gb_Nm; decide +kernel
theorem gb_nmX7 : gb_Nm RX7 := by unfold gb_Nm; decide +kernel
theorem gb_nmX8 : gb_Nm RX8 := by unfold gb_Nm; decide +kernel
theorem gb_nmX9 : gb_Nm RX9 := by unfold gb_Nm; decide +kernel
theorem gb_de0 : (parseMethodDescriptor "(I)I").map (fun d => d.parameters.length) = some 1 := by decide +kernel
theorem gb_de1 : (parseMethodDescriptor "(II)V").map (fun d => d.parameters.length) = some 2 := by decide +kernel
theorem gb_de2 : (parseMethodDescriptor "(LSubstituteDesk$Row;)V").map (fun d => d.parameters.length) = some 1 := by decide +kernel
theorem gb_de3 : (parseMethodDescriptor "()I").map (fun d => d.parameters.length) = some 0 := by decide +kernel
theorem gb_de4 : (parseMethodDescriptor "(I)C").map (fun d => d.parameters.length) = some 1 := by decide +kernel
theorem gb_de5 : (parseMethodDescriptor "(I)V").map (fun d => d.parameters.length) = some 1 := by decide +kernel
theorem gb_de6 : (parseMethodDescriptor "(IIIII)I").map (fun d => d.parameters.length) = some 5 := by decide +kernel
theorem gb_de7 : (parseMethodDescriptor "(JJJ)Z").map (fun d => d.parameters.length) = some 3 := by decide +kernel
theorem gb_de8 : (parseMethodDescriptor "()V").map (fun d => d.parameters.length) = some 0 := by decide +kernel
theorem gb_de9 : (parseMethodDescriptor "(I)Z").map (fun d => d.parameters.length) = some 1 := by decide +kernel
theorem gb_de10 : (parseMethodDescriptor "(II)I").map (fun d => d.parameters.length) = some 2 := by decide +kernel
theorem gb_de11 : (parseMethodDescriptor "(Ljava/lang/String;)Z").map (fun d => d.parameters.length) = some 1 := by decide +kernel
theorem gb_de12 : (parseMethodDescriptor "(II)Z").map (fun d => d.parameters.length) = some 2 := by decide +kernel
theorem gb_de13 : (parseMethodDescriptor "()Z").map (fun d => d.parameters.length) = some 0 := by decide +kernel
theorem gb_de14 : (parseMethodDescriptor "(ILSubstituteDesk$Row;I)Z").map (fun d => d.parameters.length) = some 3 := by decide +kernel
theorem gb_de15 : (parseMethodDescriptor "(IIIII)V").map (fun d => d.parameters.length) = some 5 := by decide +kernel
theorem gb_de16 : (parseMethodDescriptor "(LSubstituteDesk$School;)V").map (fun d => d.parameters.length) = some 1 := by decide +kernel
theorem gb_de17 : (parseMethodDescriptor "(Ljava/lang/String;)V").map (fun d => d.parameters.length) = some 1 := by decide +kernel
theorem gb_de18 : (parseMethodDescriptor "()J").map (fun d => d.parameters.length) = some 0 := by decide +kernel
theorem gb_de19 : (parseMethodDescriptor "(Ljava/lang/String;III)V").map (fun d => d.parameters.length) = some 4 := by decide +kernel
theorem gb_de20 : (parseMethodDescriptor "(III)Z").map (fun d => d.parameters.length) = some 3 := by decide +kernel
theorem gb_de21 : (parseMethodDescriptor "(I)Ljava/lang/String;").map (fun d => d.parameters.length) = some 1 := by decide +kernel
theorem gb_de22 : (parseMethodDescriptor "(IIZ)I").map (fun d => d.parameters.length) = some 3 := by decide +kernel
theorem gb_de23 : (parseMethodDescriptor "(ILSubstituteDesk$Row;I)I").map (fun d => d.parameters.length) = some 3 := by decide +kernel
theorem gb_de24 : (parseMethodDescriptor "(LSubstituteDesk$Row;II)Z").map (fun d => d.parameters.length) = some 3 := by decide +kernel
theorem gb_de25 : (parseMethodDescriptor "([I[I)V").map (fun d => d.parameters.length) = some 2 := by decide +kernel
theorem gb_de26 : (parseMethodDescriptor "(IIII)V").map (fun d => d.parameters.length) = some 4 := by decide +kernel
theorem gb_de27 : (parseMethodDescriptor "(III)V").map (fun d => d.parameters.length) = some 3 := by decide +kernel
theorem gb_de28 : (parseMethodDescriptor "(ZI)Z").map (fun d => d.parameters.length) = some 2 := by decide +kernel
theorem gb_de29 : (parseMethodDescriptor "(Z)V").map (fun d => d.parameters.length) = some 1 := by decide +kernel
theorem gb_de30 : (parseMethodDescriptor "(IZ)I").map (fun d => d.parameters.length) = some 2 := by decide +kernel
theorem gb_de31 : (parseMethodDescriptor "(LSubstituteDesk$Row;I)I").map (fun d => d.parameters.length) = some 2 := by decide +kernel
theorem gb_de32 : (parseMethodDescriptor "(LSubstituteDesk$Row;II)I").map (fun d => d.parameters.length) = some 3 := by decide +kernel
theorem gb_de33 : (parseMethodDescriptor "()D").map (fun d => d.parameters.length) = some 0 := by decide +kernel
theorem gb_de34 : (parseMethodDescriptor "(LSubstituteDesk;IIIII[J)I").map (fun d => d.parameters.length) = some 7 := by decide +kernel
theorem gb_de35 : (parseMethodDescriptor "(LSubstituteDesk;I[J)I").map (fun d => d.parameters.length) = some 3 := by decide +kernel
theorem gb_de36 : (parseMethodDescriptor "(LSubstituteDesk;IIZ[J)I").map (fun d => d.parameters.length) = some 5 := by decide +kernel
theorem gb_de37 : (parseMethodDescriptor "(LSubstituteDesk;II[J)I").map (fun d => d.parameters.length) = some 4 := by decide +kernel
theorem gb_de38 : (parseMethodDescriptor "(LSubstituteDesk;[J)I").map (fun d => d.parameters.length) = some 2 := by decide +kernel
theorem gb_T1 : gb_Tb 1 := ⟨(gb_w1 232 rfl rfl), (gb_w1 3 rfl rfl), gb_nmX6, gb_de0, (by decide +kernel), (fun _ => ⟨(gb_w1 230 rfl rfl), (gb_w1 231 rfl rfl), _, _, rfl⟩), (fun h => absurd h (by decide +kernel)), (fun h => absurd h (by decide +kernel))⟩
theorem gb_T2 : gb_Tb 2 := ⟨(gb_w1 161 rfl rfl), (gb_w1 3 rfl rfl), gb_nmX6, gb_de1, (by decide +kernel), (fun _ => ⟨(gb_w1 159 rfl rfl), (gb_w1 160 rfl rfl), _, _, rfl⟩), (fun h => absurd h (by decide +kernel)), (fun h => absurd h (by decide +kernel))⟩
theorem gb_T3 : gb_Tb 3 := ⟨(gb_w3 185 rfl rfl), (gb_w1 3 rfl rfl), gb_nmX6, gb_de2, (by decide +kernel), (fun _ => ⟨(gb_w3 183 rfl rfl), (gb_w3 184 rfl rfl), _, _, rfl⟩), (fun h => absurd h (by decide +kernel)), (fun h => absurd h (by decide +kernel))⟩
theorem gb_T4 : gb_Tb 4 := ⟨(gb_w3 51 rfl rfl), (gb_w1 20 rfl rfl), gb_nmJ0, gb_de3, (by decide +kernel), (fun h => absurd h (by decide +kernel)), (fun h => absurd h (by decide +kernel)), (fun _ => ⟨(gb_w3 49 rfl rfl), (gb_w3 50 rfl rfl), rfl⟩)⟩
theorem gb_T5 : gb_Tb 5 := ⟨(gb_w3 61 rfl rfl), (gb_w1 20 rfl rfl), gb_nmJ0, gb_de4, (by decide +kernel), (fun h => absurd h (by decide +kernel)), (fun h => absurd h (by decide +kernel)), (fun _ => ⟨(gb_w3 59 rfl rfl), (gb_w3 60 rfl rfl), rfl⟩)⟩
theorem gb_T6 : gb_Tb 6 := ⟨(gb_w5 82 rfl rfl), (gb_w1 9 rfl rfl), gb_nmX10, gb_de5, (by decide +kernel), (fun _ => ⟨(gb_w5 80 rfl rfl), (gb_w5 81 rfl rfl), _, _, rfl⟩), (fun h => absurd h (by decide +kernel)), (fun h => absurd h (by decide +kernel))⟩
theorem gb_T400 : gb_Tb 400 := ⟨(gb_w5 10 rfl rfl), (gb_w1 1 rfl rfl), gb_nmX11, gb_de6, (by decide +kernel), (fun _ => ⟨(gb_w5 8 rfl rfl), (gb_w5 9 rfl rfl), _, _, rfl⟩), (fun h => absurd h (by decide +kernel)), (fun h => absurd h (by decide +kernel))⟩
theorem gb_T7 : gb_Tb 7 := ⟨(gb_w8 83 rfl rfl), (gb_w1 13 rfl rfl), gb_nmX12, gb_de5, (by decide +kernel), (fun _ => ⟨(gb_w8 82 rfl rfl), (gb_w 80 rfl rfl), _, _, rfl⟩), (fun h => absurd h (by decide +kernel)), (fun h => absurd h (by decide +kernel))⟩
theorem gb_T8 : gb_Tb 8 := ⟨(gb_w7 110 rfl rfl), (gb_w1 13 rfl rfl), gb_nmX12, gb_de0, (by decide +kernel), (fun _ => ⟨(gb_w7 109 rfl rfl), (gb_w 41 rfl rfl), _, _, rfl⟩), (fun h => absurd h (by decide +kernel)), (fun h => absurd h (by decide +kernel))⟩
theorem gb_T9 : gb_Tb 9 := ⟨(gb_w8 79 rfl rfl), (gb_w1 13 rfl rfl), gb_nmX12, gb_de6, (by decide +kernel), (fun _ => ⟨(gb_w8 77 rfl rfl), (gb_w8 78 rfl rfl), _, _, rfl⟩), (fun h => absurd h (by decide +kernel)), (fun h => absurd h (by decide +kernel))⟩
theorem gb_T401 : gb_Tb 401 := ⟨(gb_w5 91 rfl rfl), (gb_w1 1 rfl rfl), gb_nmX11, gb_de0, (by decide +kernel), (fun _ => ⟨(gb_w5 89 rfl rfl), (gb_w5 90 rfl rfl), _, _, rfl⟩), (fun h => absurd h (by decide +kernel)), (fun h => absurd h (by decide +kernel))⟩
theorem gb_T10 : gb_Tb 10 := ⟨(gb_w7 125 rfl rfl), (gb_w1 13 rfl rfl), gb_nmX12, gb_de7, (by decide +kernel), (fun h => absurd h (by decide +kernel)), (fun _ => (gb_w7 124 rfl rfl)), (fun h => absurd h (by decide +kernel))⟩
theorem gb_T11 : gb_Tb 11 := ⟨(gb_w8 87 rfl rfl), (gb_w1 13 rfl rfl), gb_nmX12, gb_de0, (by decide +kernel), (fun _ => ⟨(gb_w8 85 rfl rfl), (gb_w8 86 rfl rfl), _, _, rfl⟩), (fun h => absurd h (by decide +kernel)), (fun h => absurd h (by decide +kernel))⟩
theorem gb_T12 : gb_Tb 12 := ⟨(gb_w1 153 rfl rfl), (gb_w1 2 rfl rfl), gb_nmX7, gb_de8, (by decide +kernel), (fun _ => ⟨(gb_w1 151 rfl rfl), (gb_w1 152 rfl rfl), _, _, rfl⟩), (fun h => absurd h (by decide +kernel)), (fun h => absurd h (by decide +kernel))⟩
theorem gb_T13 : gb_Tb 13 := ⟨(gb_w3 15 rfl rfl), (gb_w1 9 rfl rfl), gb_nmX10, gb_de0, (by decide +kernel), (fun _ => ⟨(gb_w3 14 rfl rfl), (gb_w 0 rfl rfl), _, _, rfl⟩), (fun h => absurd h (by decide +kernel)), (fun h => absurd h (by decide +kernel))⟩
theorem gb_T14 : gb_Tb 14 := ⟨(gb_w3 19 rfl rfl), (gb_w1 9 rfl rfl), gb_nmX10, gb_de9, (by decide +kernel), (fun h => absurd h (by decide +kernel)), (fun _ => (gb_w3 18 rfl rfl)), (fun h => absurd h (by decide +kernel))⟩
theorem gb_T15 : gb_Tb 15 := ⟨(gb_w3 26 rfl rfl), (gb_w1 9 rfl rfl), gb_nmX10, gb_de9, (by decide +kernel), (fun h => absurd h (by decide +kernel)), (fun _ => (gb_w3 25 rfl rfl)), (fun h => absurd h (by decide +kernel))⟩
theorem gb_T16 : gb_Tb 16 := ⟨(gb_w3 34 rfl rfl), (gb_w1 19 rfl rfl), gb_nmJ9, gb_de10, (by decide +kernel), (fun h => absurd h (by decide +kernel)), (fun h => absurd h (by decide +kernel)), (fun h => absurd h (by decide +kernel))⟩
theorem gb_T17 : gb_Tb 17 := ⟨(gb_w3 30 rfl rfl), (gb_w1 9 rfl rfl), gb_nmX10, gb_de0, (by decide +kernel), (fun _ => ⟨(gb_w3 29 rfl rfl), (gb_w 2 rfl rfl), _, _, rfl⟩), (fun h => absurd h (by decide +kernel)), (fun h => absurd h (by decide +kernel))⟩
theorem gb_T18 : gb_Tb 18 := ⟨(gb_w3 23 rfl rfl), (gb_w1 9 rfl rfl), gb_nmX10, gb_de0, (by decide +kernel), (fun _ => ⟨(gb_w3 22 rfl rfl), (gb_w 1 rfl rfl), _, _, rfl⟩), (fun h => absurd h (by decide +kernel)), (fun h => absurd h (by decide +kernel))⟩
theorem gb_T19 : gb_Tb 19 := ⟨(gb_w3 11 rfl rfl), (gb_w1 9 rfl rfl), gb_nmX10, gb_de8, (by decide +kernel), (fun _ => ⟨(gb_w3 9 rfl rfl), (gb_w3 10 rfl rfl), _, _, rfl⟩), (fun h => absurd h (by decide +kernel)), (fun h => absurd h (by decide +kernel))⟩
theorem gb_T20 : gb_Tb 20 := ⟨(gb_w3 7 rfl rfl), (gb_w1 9 rfl rfl), gb_nmX10, gb_de8, (by decide +kernel), (fun _ => ⟨(gb_w3 5 rfl rfl), (gb_w3 6 rfl rfl), _, _, rfl⟩), (fun h => absurd h (by decide +kernel)), (fun h => absurd h (by decide +kernel))⟩
theorem gb_T21 : gb_Tb 21 := ⟨(gb_w3 47 rfl rfl), (gb_w1 9 rfl rfl), gb_nmX10, gb_de11, (by decide +kernel), (fun _ => ⟨(gb_w3 45 rfl rfl), (gb_w3 46 rfl rfl), _, _, rfl⟩), (fun h => absurd h (by decide +kernel)), (fun h => absurd h (by decide +kernel))⟩
theorem gb_T22 : gb_Tb 22 := ⟨(gb_w3 103 rfl rfl), (gb_w1 9 rfl rfl), gb_nmX10, gb_de12, (by decide +kernel), (fun _ => ⟨(gb_w3 101 rfl rfl), (gb_w3 102 rfl rfl), _, _, rfl⟩), (fun h => absurd h (by decide +kernel)), (fun h => absurd h (by decide +kernel))⟩
theorem gb_T23 : gb_Tb 23 := ⟨(gb_w3 99 rfl rfl), (gb_w1 10 rfl rfl), gb_nmX8, gb_de9, (by decide +kernel), (fun _ => ⟨(gb_w3 98 rfl rfl), (gb_w 5 rfl rfl), _, _, rfl⟩), (fun h => absurd h (by decide +kernel)), (fun h => absurd h (by decide +kernel))⟩
theorem gb_T24 : gb_Tb 24 := ⟨(gb_w3 43 rfl rfl), (gb_w1 10 rfl rfl), gb_nmX8, gb_de11, (by decide +kernel), (fun _ => ⟨(gb_w3 42 rfl rfl), (gb_w 4 rfl rfl), _, _, rfl⟩), (fun h => absurd h (by decide +kernel)), (fun h => absurd h (by decide +kernel))⟩
theorem gb_T25 : gb_Tb 25 := ⟨(gb_w3 108 rfl rfl), (gb_w1 10 rfl rfl), gb_nmX8, gb_de12, (by decide +kernel), (fun _ => ⟨(gb_w3 107 rfl rfl), (gb_w 6 rfl rfl), _, _, rfl⟩), (fun h => absurd h (by decide +kernel)), (fun h => absurd h (by decide +kernel))⟩
theorem gb_T26 : gb_Tb 26 := ⟨(gb_w3 112 rfl rfl), (gb_w1 10 rfl rfl), gb_nmX8, gb_de3, (by decide +kernel), (fun _ => ⟨(gb_w3 111 rfl rfl), (gb_w 7 rfl rfl), _, _, rfl⟩), (fun h => absurd h (by decide +kernel)), (fun h => absurd h (by decide +kernel))⟩
theorem gb_T27 : gb_Tb 27 := ⟨(gb_w3 116 rfl rfl), (gb_w1 10 rfl rfl), gb_nmX8, gb_de13, (by decide +kernel), (fun _ => ⟨(gb_w3 115 rfl rfl), (gb_w 8 rfl rfl), _, _, rfl⟩), (fun h => absurd h (by decide +kernel)), (fun h => absurd h (by decide +kernel))⟩
theorem gb_T28 : gb_Tb 28 := ⟨(gb_w3 38 rfl rfl), (gb_w1 10 rfl rfl), gb_nmX8, gb_de13, (by decide +kernel), (fun _ => ⟨(gb_w3 37 rfl rfl), (gb_w 3 rfl rfl), _, _, rfl⟩), (fun h => absurd h (by decide +kernel)), (fun h => absurd h (by decide +kernel))⟩
theorem gb_T29 : gb_Tb 29 := ⟨(gb_w1 157 rfl rfl), (gb_w1 2 rfl rfl), gb_nmX7, gb_de5, (by decide +kernel), (fun _ => ⟨(gb_w1 155 rfl rfl), (gb_w1 156 rfl rfl), _, _, rfl⟩), (fun h => absurd h (by decide +kernel)), (fun h => absurd h (by decide +kernel))⟩
theorem gb_T30 : gb_Tb 30 := ⟨(gb_w3 120 rfl rfl), (gb_w1 10 rfl rfl), gb_nmX8, gb_de13, (by decide +kernel), (fun _ => ⟨(gb_w3 119 rfl rfl), (gb_w 9 rfl rfl), _, _, rfl⟩), (fun h => absurd h (by decide +kernel)), (fun h => absurd h (by decide +kernel))⟩
theorem gb_T31 : gb_Tb 31 := ⟨(gb_w1 165 rfl rfl), (gb_w1 2 rfl rfl), gb_nmX7, gb_de1, (by decide +kernel), (fun _ => ⟨(gb_w1 163 rfl rfl), (gb_w1 164 rfl rfl), _, _, rfl⟩), (fun h => absurd h (by decide +kernel)), (fun h => absurd h (by decide +kernel))⟩
theorem gb_T32 : gb_Tb 32 := ⟨(gb_w2 7 rfl rfl), (gb_w1 1 rfl rfl), gb_nmX11, gb_de12, (by decide +kernel), (fun h => absurd h (by decide +kernel)), (fun _ => (gb_w2 6 rfl rfl)), (fun h => absurd h (by decide +kernel))⟩
theorem gb_T33 : gb_Tb 33 := ⟨(gb_w3 131 rfl rfl), (gb_w1 10 rfl rfl), gb_nmX8, gb_de13, (by decide +kernel), (fun _ => ⟨(gb_w3 130 rfl rfl), (gb_w 11 rfl rfl), _, _, rfl⟩), (fun h => absurd h (by decide +kernel)), (fun h => absurd h (by decide +kernel))⟩
theorem gb_T34 : gb_Tb 34 := ⟨(gb_w3 126 rfl rfl), (gb_w1 10 rfl rfl), gb_nmX8, gb_de13, (by decide +kernel), (fun _ => ⟨(gb_w3 125 rfl rfl), (gb_w 10 rfl rfl), _, _, rfl⟩), (fun h => absurd h (by decide +kernel)), (fun h => absurd h (by decide +kernel))⟩
theorem gb_T35 : gb_Tb 35 := ⟨(gb_w1 169 rfl rfl), (gb_w1 2 rfl rfl), gb_nmX7, gb_de5, (by decide +kernel), (fun _ => ⟨(gb_w1 167 rfl rfl), (gb_w1 168 rfl rfl), _, _, rfl⟩), (fun h => absurd h (by decide +kernel)), (fun h => absurd h (by decide +kernel))⟩
theorem gb_T36 : gb_Tb 36 := ⟨(gb_w3 137 rfl rfl), (gb_w1 10 rfl rfl), gb_nmX8, gb_de13, (by decide +kernel), (fun _ => ⟨(gb_w3 136 rfl rfl), (gb_w 12 rfl rfl), _, _, rfl⟩), (fun h => absurd h (by decide +kernel)), (fun h => absurd h (by decide +kernel))⟩
theorem gb_T37 : gb_Tb 37 := ⟨(gb_w3 143 rfl rfl), (gb_w1 10 rfl rfl), gb_nmX8, gb_de13, (by decide +kernel), (fun _ => ⟨(gb_w3 142 rfl rfl), (gb_w 13 rfl rfl), _, _, rfl⟩), (fun h => absurd h (by decide +kernel)), (fun h => absurd h (by decide +kernel))⟩
theorem gb_T38 : gb_Tb 38 := ⟨(gb_w3 157 rfl rfl), (gb_w1 2 rfl rfl), gb_nmX7, gb_de3, (by decide +kernel), (fun _ => ⟨(gb_w3 155 rfl rfl), (gb_w3 156 rfl rfl), _, _, rfl⟩), (fun h => absurd h (by decide +kernel)), (fun h => absurd h (by decide +kernel))⟩
theorem gb_T39 : gb_Tb 39 := ⟨(gb_w3 165 rfl rfl), (gb_w1 2 rfl rfl), gb_nmX7, gb_de14, (by decide +kernel), (fun _ => ⟨(gb_w3 163 rfl rfl), (gb_w3 164 rfl rfl), _, _, rfl⟩), (fun h => absurd h (by decide +kernel)), (fun h => absurd h (by decide +kernel))⟩
theorem gb_T40 : gb_Tb 40 := ⟨(gb_w3 161 rfl rfl), (gb_w1 10 rfl rfl), gb_nmX8, gb_de14, (by decide +kernel), (fun _ => ⟨(gb_w3 160 rfl rfl), (gb_w 16 rfl rfl), _, _, rfl⟩), (fun h => absurd h (by decide +kernel)), (fun h => absurd h (by decide +kernel))⟩
theorem gb_T41 : gb_Tb 41 := ⟨(gb_w3 174 rfl rfl), (gb_w1 2 rfl rfl), gb_nmX7, gb_de9, (by decide +kernel), (fun _ => ⟨(gb_w3 172 rfl rfl), (gb_w3 173 rfl rfl), _, _, rfl⟩), (fun h => absurd h (by decide +kernel)), (fun h => absurd h (by decide +kernel))⟩
theorem gb_T42 : gb_Tb 42 := ⟨(gb_w3 170 rfl rfl), (gb_w1 2 rfl rfl), gb_nmX7, gb_de12, (by decide +kernel), (fun _ => ⟨(gb_w3 168 rfl rfl), (gb_w3 169 rfl rfl), _, _, rfl⟩), (fun h => absurd h (by decide +kernel)), (fun h => absurd h (by decide +kernel))⟩
theorem gb_T43 : gb_Tb 43 := ⟨(gb_w1 173 rfl rfl), (gb_w1 2 rfl rfl), gb_nmX7, gb_de15, (by decide +kernel), (fun _ => ⟨(gb_w1 171 rfl rfl), (gb_w1 172 rfl rfl), _, _, rfl⟩), (fun h => absurd h (by decide +kernel)), (fun h => absurd h (by decide +kernel))⟩
theorem gb_T44 : gb_Tb 44 := ⟨(gb_w3 153 rfl rfl), (gb_w1 10 rfl rfl), gb_nmX8, gb_de13, (by decide +kernel), (fun _ => ⟨(gb_w3 152 rfl rfl), (gb_w 15 rfl rfl), _, _, rfl⟩), (fun h => absurd h (by decide +kernel)), (fun h => absurd h (by decide +kernel))⟩
theorem gb_T45 : gb_Tb 45 := ⟨(gb_w3 148 rfl rfl), (gb_w1 10 rfl rfl), gb_nmX8, gb_de13, (by decide +kernel), (fun _ => ⟨(gb_w3 147 rfl rfl), (gb_w 14 rfl rfl), _, _, rfl⟩), (fun h => absurd h (by decide +kernel)), (fun h => absurd h (by decide +kernel))⟩
theorem gb_T46 : gb_Tb 46 := ⟨(gb_w3 2 rfl rfl), (gb_w1 10 rfl rfl), gb_nmX8, gb_de13, (by decide +kernel), (fun _ => ⟨(gb_w3 0 rfl rfl), (gb_w3 1 rfl rfl), _, _, rfl⟩), (fun h => absurd h (by decide +kernel)), (fun h => absurd h (by decide +kernel))⟩
theorem gb_T47 : gb_Tb 47 := ⟨(gb_w3 181 rfl rfl), (gb_w1 2 rfl rfl), gb_nmX7, gb_de16, (by decide +kernel), (fun _ => ⟨(gb_w3 179 rfl rfl), (gb_w3 180 rfl rfl), _, _, rfl⟩), (fun h => absurd h (by decide +kernel)), (fun h => absurd h (by decide +kernel))⟩
theorem gb_T48 : gb_Tb 48 := ⟨(gb_w2 0 rfl rfl), (gb_w1 2 rfl rfl), gb_nmX7, gb_de0, (by decide +kernel), (fun _ => ⟨(gb_w1 238 rfl rfl), (gb_w1 239 rfl rfl), _, _, rfl⟩), (fun h => absurd h (by decide +kernel)), (fun h => absurd h (by decide +kernel))⟩
theorem gb_T49 : gb_Tb 49 := ⟨(gb_w2 4 rfl rfl), (gb_w1 4 rfl rfl), gb_nmX3, gb_de12, (by decide +kernel), (fun _ => ⟨(gb_w2 2 rfl rfl), (gb_w2 3 rfl rfl), _, _, rfl⟩), (fun h => absurd h (by decide +kernel)), (fun h => absurd h (by decide +kernel))⟩
theorem gb_T50 : gb_Tb 50 := ⟨(gb_w1 236 rfl rfl), (gb_w1 4 rfl rfl), gb_nmX3, gb_de12, (by decide +kernel), (fun _ => ⟨(gb_w1 234 rfl rfl), (gb_w1 235 rfl rfl), _, _, rfl⟩), (fun h => absurd h (by decide +kernel)), (fun h => absurd h (by decide +kernel))⟩
theorem gb_T51 : gb_Tb 51 := ⟨(gb_w1 228 rfl rfl), (gb_w1 4 rfl rfl), gb_nmX3, gb_de8, (by decide +kernel), (fun _ => ⟨(gb_w1 226 rfl rfl), (gb_w1 227 rfl rfl), _, _, rfl⟩), (fun h => absurd h (by decide +kernel)), (fun h => absurd h (by decide +kernel))⟩
theorem gb_T52 : gb_Tb 52 := ⟨(gb_w1 223 rfl rfl), (gb_w1 4 rfl rfl), gb_nmX3, gb_de8, (by decide +kernel), (fun _ => ⟨(gb_w1 221 rfl rfl), (gb_w1 222 rfl rfl), _, _, rfl⟩), (fun h => absurd h (by decide +kernel)), (fun h => absurd h (by decide +kernel))⟩
theorem gb_T53 : gb_Tb 53 := ⟨(gb_w3 190 rfl rfl), (gb_w1 8 rfl rfl), gb_nmX1, gb_de8, (by decide +kernel), (fun _ => ⟨(gb_w3 188 rfl rfl), (gb_w3 189 rfl rfl), _, _, rfl⟩), (fun h => absurd h (by decide +kernel)), (fun h => absurd h (by decide +kernel))⟩
theorem gb_T54 : gb_Tb 54 := ⟨(gb_w2 238 rfl rfl), (gb_w1 1 rfl rfl), gb_nmX11, gb_de3, (by decide +kernel), (fun _ => ⟨(gb_w2 236 rfl rfl), (gb_w2 237 rfl rfl), _, _, rfl⟩), (fun h => absurd h (by decide +kernel)), (fun h => absurd h (by decide +kernel))⟩
theorem gb_T55 : gb_Tb 55 := ⟨(gb_w8 103 rfl rfl), (gb_w1 13 rfl rfl), gb_nmX12, gb_de0, (by decide +kernel), (fun _ => ⟨(gb_w8 102 rfl rfl), (gb_w 83 rfl rfl), _, _, rfl⟩), (fun h => absurd h (by decide +kernel)), (fun h => absurd h (by decide +kernel))⟩
theorem gb_T56 : gb_Tb 56 := ⟨(gb_w8 107 rfl rfl), (gb_w1 13 rfl rfl), gb_nmX12, gb_de9, (by decide +kernel), (fun _ => ⟨(gb_w8 106 rfl rfl), (gb_w 84 rfl rfl), _, _, rfl⟩), (fun h => absurd h (by decide +kernel)), (fun h => absurd h (by decide +kernel))⟩
theorem gb_T57 : gb_Tb 57 := ⟨(gb_w8 113 rfl rfl), (gb_w1 13 rfl rfl), gb_nmX12, gb_de9, (by decide +kernel), (fun _ => ⟨(gb_w8 112 rfl rfl), (gb_w 85 rfl rfl), _, _, rfl⟩), (fun h => absurd h (by decide +kernel)), (fun h => absurd h (by decide +kernel))⟩
theorem gb_T58 : gb_Tb 58 := ⟨(gb_w8 99 rfl rfl), (gb_w1 13 rfl rfl), gb_nmX12, gb_de8, (by decide +kernel), (fun _ => ⟨(gb_w8 98 rfl rfl), (gb_w 82 rfl rfl), _, _, rfl⟩), (fun h => absurd h (by decide +kernel)), (fun h => absurd h (by decide +kernel))⟩
theorem gb_T59 : gb_Tb 59 := ⟨(gb_w8 95 rfl rfl), (gb_w1 13 rfl rfl), gb_nmX12, gb_de8, (by decide +kernel), (fun _ => ⟨(gb_w8 94 rfl rfl), (gb_w 81 rfl rfl), _, _, rfl⟩), (fun h => absurd h (by decide +kernel)), (fun h => absurd h (by decide +kernel))⟩
theorem gb_T60 : gb_Tb 60 := ⟨(gb_w8 124 rfl rfl), (gb_w1 13 rfl rfl), gb_nmX12, gb_de11, (by decide +kernel), (fun _ => ⟨(gb_w8 123 rfl rfl), (gb_w 87 rfl rfl), _, _, rfl⟩), (fun h => absurd h (by decide +kernel)), (fun h => absurd h (by decide +kernel))⟩
theorem gb_T61 : gb_Tb 61 := ⟨(gb_w8 134 rfl rfl), (gb_w1 13 rfl rfl), gb_nmX12, gb_de8, (by decide +kernel), (fun _ => ⟨(gb_w8 133 rfl rfl), (gb_w 89 rfl rfl), _, _, rfl⟩), (fun h => absurd h (by decide +kernel)), (fun h => absurd h (by decide +kernel))⟩
theorem gb_T62 : gb_Tb 62 := ⟨(gb_w8 130 rfl rfl), (gb_w1 13 rfl rfl), gb_nmX12, gb_de5, (by decide +kernel), (fun _ => ⟨(gb_w8 129 rfl rfl), (gb_w 88 rfl rfl), _, _, rfl⟩), (fun h => absurd h (by decide +kernel)), (fun h => absurd h (by decide +kernel))⟩
theorem gb_T63 : gb_Tb 63 := ⟨(gb_w8 120 rfl rfl), (gb_w1 13 rfl rfl), gb_nmX12, gb_de17, (by decide +kernel), (fun _ => ⟨(gb_w8 119 rfl rfl), (gb_w 86 rfl rfl), _, _, rfl⟩), (fun h => absurd h (by decide +kernel)), (fun h => absurd h (by decide +kernel))⟩
theorem gb_T64 : gb_Tb 64 := ⟨(gb_w8 146 rfl rfl), (gb_w1 13 rfl rfl), gb_nmX12, gb_de18, (by decide +kernel), (fun _ => ⟨(gb_w8 145 rfl rfl), (gb_w 92 rfl rfl), _, _, rfl⟩), (fun h => absurd h (by decide +kernel)), (fun h => absurd h (by decide +kernel))⟩
theorem gb_T65 : gb_Tb 65 := ⟨(gb_w8 142 rfl rfl), (gb_w1 13 rfl rfl), gb_nmX12, gb_de10, (by decide +kernel), (fun _ => ⟨(gb_w8 141 rfl rfl), (gb_w 91 rfl rfl), _, _, rfl⟩), (fun h => absurd h (by decide +kernel)), (fun h => absurd h (by decide +kernel))⟩
theorem gb_T66 : gb_Tb 66 := ⟨(gb_w8 138 rfl rfl), (gb_w1 13 rfl rfl), gb_nmX12, gb_de10, (by decide +kernel), (fun _ => ⟨(gb_w8 137 rfl rfl), (gb_w 90 rfl rfl), _, _, rfl⟩), (fun h => absurd h (by decide +kernel)), (fun h => absurd h (by decide +kernel))⟩
theorem gb_T67 : gb_Tb 67 := ⟨(gb_w8 158 rfl rfl), (gb_w1 13 rfl rfl), gb_nmX12, gb_de12, (by decide +kernel), (fun _ => ⟨(gb_w8 157 rfl rfl), (gb_w 94 rfl rfl), _, _, rfl⟩), (fun h => absurd h (by decide +kernel)), (fun h => absurd h (by decide +kernel))⟩
theorem gb_T68 : gb_Tb 68 := ⟨(gb_w8 154 rfl rfl), (gb_w1 13 rfl rfl), gb_nmX12, gb_de19, (by decide +kernel), (fun _ => ⟨(gb_w8 153 rfl rfl), (gb_w 93 rfl rfl), _, _, rfl⟩), (fun h => absurd h (by decide +kernel)), (fun h => absurd h (by decide +kernel))⟩
theorem gb_T69 : gb_Tb 69 := ⟨(gb_w7 183 rfl rfl), (gb_w1 13 rfl rfl), gb_nmX12, gb_de12, (by decide +kernel), (fun h => absurd h (by decide +kernel)), (fun _ => (gb_w7 182 rfl rfl)), (fun h => absurd h (by decide +kernel))⟩
theorem gb_T70 : gb_Tb 70 := ⟨(gb_w8 162 rfl rfl), (gb_w1 13 rfl rfl), gb_nmX12, gb_de8, (by decide +kernel), (fun _ => ⟨(gb_w8 161 rfl rfl), (gb_w 95 rfl rfl), _, _, rfl⟩), (fun h => absurd h (by decide +kernel)), (fun h => absurd h (by decide +kernel))⟩
theorem gb_T71 : gb_Tb 71 := ⟨(gb_w8 174 rfl rfl), (gb_w1 13 rfl rfl), gb_nmX12, gb_de20, (by decide +kernel), (fun _ => ⟨(gb_w8 173 rfl rfl), (gb_w 97 rfl rfl), _, _, rfl⟩), (fun h => absurd h (by decide +kernel)), (fun h => absurd h (by decide +kernel))⟩
theorem gb_T72 : gb_Tb 72 := ⟨(gb_w8 170 rfl rfl), (gb_w1 13 rfl rfl), gb_nmX12, gb_de8, (by decide +kernel), (fun _ => ⟨(gb_w8 169 rfl rfl), (gb_w 96 rfl rfl), _, _, rfl⟩), (fun h => absurd h (by decide +kernel)), (fun h => absurd h (by decide +kernel))⟩
theorem gb_T73 : gb_Tb 73 := ⟨(gb_w7 37 rfl rfl), (gb_w1 13 rfl rfl), gb_nmX12, gb_de5, (by decide +kernel), (fun _ => ⟨(gb_w7 36 rfl rfl), (gb_w 40 rfl rfl), _, _, rfl⟩), (fun h => absurd h (by decide +kernel)), (fun h => absurd h (by decide +kernel))⟩
theorem gb_T74 : gb_Tb 74 := ⟨(gb_w7 33 rfl rfl), (gb_w1 13 rfl rfl), gb_nmX12, gb_de8, (by decide +kernel), (fun _ => ⟨(gb_w7 32 rfl rfl), (gb_w 39 rfl rfl), _, _, rfl⟩), (fun h => absurd h (by decide +kernel)), (fun h => absurd h (by decide +kernel))⟩
theorem gb_T75 : gb_Tb 75 := ⟨(gb_w8 91 rfl rfl), (gb_w1 13 rfl rfl), gb_nmX12, gb_de3, (by decide +kernel), (fun _ => ⟨(gb_w8 89 rfl rfl), (gb_w8 90 rfl rfl), _, _, rfl⟩), (fun h => absurd h (by decide +kernel)), (fun h => absurd h (by decide +kernel))⟩
theorem gb_T76 : gb_Tb 76 := ⟨(gb_w3 203 rfl rfl), (gb_w1 8 rfl rfl), gb_nmX1, gb_de0, (by decide +kernel), (fun _ => ⟨(gb_w3 202 rfl rfl), (gb_w 17 rfl rfl), _, _, rfl⟩), (fun h => absurd h (by decide +kernel)), (fun h => absurd h (by decide +kernel))⟩
theorem gb_T77 : gb_Tb 77 := ⟨(gb_w3 199 rfl rfl), (gb_w1 8 rfl rfl), gb_nmX1, gb_de8, (by decide +kernel), (fun _ => ⟨(gb_w3 197 rfl rfl), (gb_w3 198 rfl rfl), _, _, rfl⟩), (fun h => absurd h (by decide +kernel)), (fun h => absurd h (by decide +kernel))⟩
theorem gb_T78 : gb_Tb 78 := ⟨(gb_w4 182 rfl rfl), (gb_w1 8 rfl rfl), gb_nmX1, gb_de8, (by decide +kernel), (fun _ => ⟨(gb_w4 180 rfl rfl), (gb_w4 181 rfl rfl), _, _, rfl⟩), (fun h => absurd h (by decide +kernel)), (fun h => absurd h (by decide +kernel))⟩
theorem gb_T79 : gb_Tb 79 := ⟨(gb_w4 178 rfl rfl), (gb_w1 8 rfl rfl), gb_nmX1, gb_de8, (by decide +kernel), (fun _ => ⟨(gb_w4 176 rfl rfl), (gb_w4 177 rfl rfl), _, _, rfl⟩), (fun h => absurd h (by decide +kernel)), (fun h => absurd h (by decide +kernel))⟩
theorem gb_T80 : gb_Tb 80 := ⟨(gb_w3 217 rfl rfl), (gb_w1 11 rfl rfl), gb_nmX9, gb_de21, (by decide +kernel), (fun h => absurd h (by decide +kernel)), (fun _ => (gb_w3 216 rfl rfl)), (fun h => absurd h (by decide +kernel))⟩
theorem gb_T81 : gb_Tb 81 := ⟨(gb_w3 214 rfl rfl), (gb_w1 11 rfl rfl), gb_nmX9, gb_de3, (by decide +kernel), (fun _ => ⟨(gb_w3 213 rfl rfl), (gb_w 18 rfl rfl), _, _, rfl⟩), (fun h => absurd h (by decide +kernel)), (fun h => absurd h (by decide +kernel))⟩
theorem gb_T82 : gb_Tb 82 := ⟨(gb_w3 233 rfl rfl), (gb_w1 11 rfl rfl), gb_nmX9, gb_de0, (by decide +kernel), (fun h => absurd h (by decide +kernel)), (fun _ => (gb_w3 232 rfl rfl)), (fun h => absurd h (by decide +kernel))⟩
theorem gb_T83 : gb_Tb 83 := ⟨(gb_w3 210 rfl rfl), (gb_w1 11 rfl rfl), gb_nmX9, gb_de13, (by decide +kernel), (fun _ => ⟨(gb_w3 208 rfl rfl), (gb_w3 209 rfl rfl), _, _, rfl⟩), (fun h => absurd h (by decide +kernel)), (fun h => absurd h (by decide +kernel))⟩
theorem gb_T84 : gb_Tb 84 := ⟨(gb_w4 2 rfl rfl), (gb_w1 2 rfl rfl), gb_nmX7, gb_de9, (by decide +kernel), (fun _ => ⟨(gb_w4 0 rfl rfl), (gb_w4 1 rfl rfl), _, _, rfl⟩), (fun h => absurd h (by decide +kernel)), (fun h => absurd h (by decide +kernel))⟩
theorem gb_T85 : gb_Tb 85 := ⟨(gb_w4 13 rfl rfl), (gb_w1 4 rfl rfl), gb_nmX3, gb_de5, (by decide +kernel), (fun _ => ⟨(gb_w4 11 rfl rfl), (gb_w4 12 rfl rfl), _, _, rfl⟩), (fun h => absurd h (by decide +kernel)), (fun h => absurd h (by decide +kernel))⟩
theorem gb_T86 : gb_Tb 86 := ⟨(gb_w4 6 rfl rfl), (gb_w1 7 rfl rfl), gb_nmX2, gb_de22, (by decide +kernel), (fun _ => ⟨(gb_w4 4 rfl rfl), (gb_w4 5 rfl rfl), _, _, rfl⟩), (fun h => absurd h (by decide +kernel)), (fun h => absurd h (by decide +kernel))⟩
theorem gb_T87 : gb_Tb 87 := ⟨(gb_w4 86 rfl rfl), (gb_w1 2 rfl rfl), gb_nmX7, gb_de9, (by decide +kernel), (fun _ => ⟨(gb_w4 84 rfl rfl), (gb_w4 85 rfl rfl), _, _, rfl⟩), (fun h => absurd h (by decide +kernel)), (fun h => absurd h (by decide +kernel))⟩
theorem gb_T88 : gb_Tb 88 := ⟨(gb_w4 29 rfl rfl), (gb_w1 4 rfl rfl), gb_nmX3, gb_de9, (by decide +kernel), (fun _ => ⟨(gb_w4 27 rfl rfl), (gb_w4 28 rfl rfl), _, _, rfl⟩), (fun h => absurd h (by decide +kernel)), (fun h => absurd h (by decide +kernel))⟩
theorem gb_T89 : gb_Tb 89 := ⟨(gb_w4 171 rfl rfl), (gb_w1 7 rfl rfl), gb_nmX2, gb_de9, (by decide +kernel), (fun _ => ⟨(gb_w4 169 rfl rfl), (gb_w4 170 rfl rfl), _, _, rfl⟩), (fun h => absurd h (by decide +kernel)), (fun h => absurd h (by decide +kernel))⟩
theorem gb_T90 : gb_Tb 90 := ⟨(gb_w4 34 rfl rfl), (gb_w1 6 rfl rfl), gb_nmX0, gb_de0, (by decide +kernel), (fun _ => ⟨(gb_w4 33 rfl rfl), (gb_w 19 rfl rfl), _, _, rfl⟩), (fun h => absurd h (by decide +kernel)), (fun h => absurd h (by decide +kernel))⟩
theorem gb_T91 : gb_Tb 91 := ⟨(gb_w4 45 rfl rfl), (gb_w1 4 rfl rfl), gb_nmX3, gb_de9, (by decide +kernel), (fun _ => ⟨(gb_w4 43 rfl rfl), (gb_w4 44 rfl rfl), _, _, rfl⟩), (fun h => absurd h (by decide +kernel)), (fun h => absurd h (by decide +kernel))⟩
theorem gb_T92 : gb_Tb 92 := ⟨(gb_w4 49 rfl rfl), (gb_w1 2 rfl rfl), gb_nmX7, gb_de0, (by decide +kernel), (fun _ => ⟨(gb_w4 47 rfl rfl), (gb_w4 48 rfl rfl), _, _, rfl⟩), (fun h => absurd h (by decide +kernel)), (fun h => absurd h (by decide +kernel))⟩
theorem gb_T93 : gb_Tb 93 := ⟨(gb_w4 40 rfl rfl), (gb_w1 6 rfl rfl), gb_nmX0, gb_de10, (by decide +kernel), (fun _ => ⟨(gb_w4 39 rfl rfl), (gb_w 20 rfl rfl), _, _, rfl⟩), (fun h => absurd h (by decide +kernel)), (fun h => absurd h (by decide +kernel))⟩
theorem gb_T94 : gb_Tb 94 := ⟨(gb_w4 58 rfl rfl), (gb_w1 4 rfl rfl), gb_nmX3, gb_de0, (by decide +kernel), (fun _ => ⟨(gb_w4 56 rfl rfl), (gb_w4 57 rfl rfl), _, _, rfl⟩), (fun h => absurd h (by decide +kernel)), (fun h => absurd h (by decide +kernel))⟩
theorem gb_T95 : gb_Tb 95 := ⟨(gb_w4 53 rfl rfl), (gb_w1 6 rfl rfl), gb_nmX0, gb_de0, (by decide +kernel), (fun _ => ⟨(gb_w4 52 rfl rfl), (gb_w 21 rfl rfl), _, _, rfl⟩), (fun h => absurd h (by decide +kernel)), (fun h => absurd h (by decide +kernel))⟩
theorem gb_T96 : gb_Tb 96 := ⟨(gb_w4 74 rfl rfl), (gb_w1 6 rfl rfl), gb_nmX0, gb_de0, (by decide +kernel), (fun _ => ⟨(gb_w4 73 rfl rfl), (gb_w 25 rfl rfl), _, _, rfl⟩), (fun h => absurd h (by decide +kernel)), (fun h => absurd h (by decide +kernel))⟩
theorem gb_T97 : gb_Tb 97 := ⟨(gb_w4 66 rfl rfl), (gb_w1 6 rfl rfl), gb_nmX0, gb_de10, (by decide +kernel), (fun _ => ⟨(gb_w4 65 rfl rfl), (gb_w 23 rfl rfl), _, _, rfl⟩), (fun h => absurd h (by decide +kernel)), (fun h => absurd h (by decide +kernel))⟩
theorem gb_T98 : gb_Tb 98 := ⟨(gb_w4 70 rfl rfl), (gb_w1 6 rfl rfl), gb_nmX0, gb_de0, (by decide +kernel), (fun _ => ⟨(gb_w4 69 rfl rfl), (gb_w 24 rfl rfl), _, _, rfl⟩), (fun h => absurd h (by decide +kernel)), (fun h => absurd h (by decide +kernel))⟩
theorem gb_T99 : gb_Tb 99 := ⟨(gb_w4 62 rfl rfl), (gb_w1 6 rfl rfl), gb_nmX0, gb_de5, (by decide +kernel), (fun _ => ⟨(gb_w4 61 rfl rfl), (gb_w 22 rfl rfl), _, _, rfl⟩), (fun h => absurd h (by decide +kernel)), (fun h => absurd h (by decide +kernel))⟩
theorem gb_T100 : gb_Tb 100 := ⟨(gb_w4 25 rfl rfl), (gb_w1 6 rfl rfl), gb_nmX0, gb_de0, (by decide +kernel), (fun _ => ⟨(gb_w4 23 rfl rfl), (gb_w4 24 rfl rfl), _, _, rfl⟩), (fun h => absurd h (by decide +kernel)), (fun h => absurd h (by decide +kernel))⟩
theorem gb_T101 : gb_Tb 101 := ⟨(gb_w4 78 rfl rfl), (gb_w1 4 rfl rfl), gb_nmX3, gb_de23, (by decide +kernel), (fun _ => ⟨(gb_w4 76 rfl rfl), (gb_w4 77 rfl rfl), _, _, rfl⟩), (fun h => absurd h (by decide +kernel)), (fun h => absurd h (by decide +kernel))⟩
theorem gb_T102 : gb_Tb 102 := ⟨(gb_w4 82 rfl rfl), (gb_w1 4 rfl rfl), gb_nmX3, gb_de1, (by decide +kernel), (fun _ => ⟨(gb_w4 80 rfl rfl), (gb_w4 81 rfl rfl), _, _, rfl⟩), (fun h => absurd h (by decide +kernel)), (fun h => absurd h (by decide +kernel))⟩
theorem gb_T103 : gb_Tb 103 := ⟨(gb_w4 21 rfl rfl), (gb_w1 7 rfl rfl), gb_nmX2, gb_de9, (by decide +kernel), (fun _ => ⟨(gb_w4 19 rfl rfl), (gb_w4 20 rfl rfl), _, _, rfl⟩), (fun h => absurd h (by decide +kernel)), (fun h => absurd h (by decide +kernel))⟩
theorem gb_T104 : gb_Tb 104 := ⟨(gb_w4 159 rfl rfl), (gb_w1 2 rfl rfl), gb_nmX7, gb_de9, (by decide +kernel), (fun _ => ⟨(gb_w4 157 rfl rfl), (gb_w4 158 rfl rfl), _, _, rfl⟩), (fun h => absurd h (by decide +kernel)), (fun h => absurd h (by decide +kernel))⟩
theorem gb_T105 : gb_Tb 105 := ⟨(gb_w4 167 rfl rfl), (gb_w1 5 rfl rfl), gb_nmX4, gb_de10, (by decide +kernel), (fun _ => ⟨(gb_w4 165 rfl rfl), (gb_w4 166 rfl rfl), _, _, rfl⟩), (fun h => absurd h (by decide +kernel)), (fun h => absurd h (by decide +kernel))⟩
theorem gb_T106 : gb_Tb 106 := ⟨(gb_w4 163 rfl rfl), (gb_w1 7 rfl rfl), gb_nmX2, gb_de12, (by decide +kernel), (fun _ => ⟨(gb_w4 161 rfl rfl), (gb_w4 162 rfl rfl), _, _, rfl⟩), (fun h => absurd h (by decide +kernel)), (fun h => absurd h (by decide +kernel))⟩
theorem gb_T107 : gb_Tb 107 := ⟨(gb_w4 146 rfl rfl), (gb_w1 2 rfl rfl), gb_nmX7, gb_de9, (by decide +kernel), (fun _ => ⟨(gb_w4 144 rfl rfl), (gb_w4 145 rfl rfl), _, _, rfl⟩), (fun h => absurd h (by decide +kernel)), (fun h => absurd h (by decide +kernel))⟩
theorem gb_T108 : gb_Tb 108 := ⟨(gb_w4 102 rfl rfl), (gb_w1 5 rfl rfl), gb_nmX4, gb_de12, (by decide +kernel), (fun _ => ⟨(gb_w4 101 rfl rfl), (gb_w 26 rfl rfl), _, _, rfl⟩), (fun h => absurd h (by decide +kernel)), (fun h => absurd h (by decide +kernel))⟩
theorem gb_T109 : gb_Tb 109 := ⟨(gb_w4 138 rfl rfl), (gb_w1 5 rfl rfl), gb_nmX4, gb_de12, (by decide +kernel), (fun _ => ⟨(gb_w4 137 rfl rfl), (gb_w 27 rfl rfl), _, _, rfl⟩), (fun h => absurd h (by decide +kernel)), (fun h => absurd h (by decide +kernel))⟩
theorem gb_T110 : gb_Tb 110 := ⟨(gb_w4 155 rfl rfl), (gb_w1 5 rfl rfl), gb_nmX4, gb_de10, (by decide +kernel), (fun _ => ⟨(gb_w4 153 rfl rfl), (gb_w4 154 rfl rfl), _, _, rfl⟩), (fun h => absurd h (by decide +kernel)), (fun h => absurd h (by decide +kernel))⟩
theorem gb_T111 : gb_Tb 111 := ⟨(gb_w4 151 rfl rfl), (gb_w1 7 rfl rfl), gb_nmX2, gb_de12, (by decide +kernel), (fun _ => ⟨(gb_w4 149 rfl rfl), (gb_w4 150 rfl rfl), _, _, rfl⟩), (fun h => absurd h (by decide +kernel)), (fun h => absurd h (by decide +kernel))⟩
theorem gb_T112 : gb_Tb 112 := ⟨(gb_w4 142 rfl rfl), (gb_w1 5 rfl rfl), gb_nmX4, gb_de24, (by decide +kernel), (fun _ => ⟨(gb_w4 141 rfl rfl), (gb_w 28 rfl rfl), _, _, rfl⟩), (fun h => absurd h (by decide +kernel)), (fun h => absurd h (by decide +kernel))⟩
theorem gb_T113 : gb_Tb 113 := ⟨(gb_w4 134 rfl rfl), (gb_w1 5 rfl rfl), gb_nmX4, gb_de10, (by decide +kernel), (fun _ => ⟨(gb_w4 132 rfl rfl), (gb_w4 133 rfl rfl), _, _, rfl⟩), (fun h => absurd h (by decide +kernel)), (fun h => absurd h (by decide +kernel))⟩
theorem gb_T114 : gb_Tb 114 := ⟨(gb_w4 130 rfl rfl), (gb_w1 7 rfl rfl), gb_nmX2, gb_de12, (by decide +kernel), (fun _ => ⟨(gb_w4 128 rfl rfl), (gb_w4 129 rfl rfl), _, _, rfl⟩), (fun h => absurd h (by decide +kernel)), (fun h => absurd h (by decide +kernel))⟩
theorem gb_T115 : gb_Tb 115 := ⟨(gb_w4 122 rfl rfl), (gb_w1 4 rfl rfl), gb_nmX3, gb_de9, (by decide +kernel), (fun _ => ⟨(gb_w4 120 rfl rfl), (gb_w4 121 rfl rfl), _, _, rfl⟩), (fun h => absurd h (by decide +kernel)), (fun h => absurd h (by decide +kernel))⟩
theorem gb_T116 : gb_Tb 116 := ⟨(gb_w4 118 rfl rfl), (gb_w1 4 rfl rfl), gb_nmX3, gb_de10, (by decide +kernel), (fun _ => ⟨(gb_w4 116 rfl rfl), (gb_w4 117 rfl rfl), _, _, rfl⟩), (fun h => absurd h (by decide +kernel)), (fun h => absurd h (by decide +kernel))⟩
theorem gb_T117 : gb_Tb 117 := ⟨(gb_w4 112 rfl rfl), (gb_w1 5 rfl rfl), gb_nmX4, gb_de10, (by decide +kernel), (fun _ => ⟨(gb_w4 110 rfl rfl), (gb_w4 111 rfl rfl), _, _, rfl⟩), (fun h => absurd h (by decide +kernel)), (fun h => absurd h (by decide +kernel))⟩
theorem gb_T118 : gb_Tb 118 := ⟨(gb_w4 126 rfl rfl), (gb_w1 4 rfl rfl), gb_nmX3, gb_de1, (by decide +kernel), (fun _ => ⟨(gb_w4 124 rfl rfl), (gb_w4 125 rfl rfl), _, _, rfl⟩), (fun h => absurd h (by decide +kernel)), (fun h => absurd h (by decide +kernel))⟩
theorem gb_T119 : gb_Tb 119 := ⟨(gb_w4 108 rfl rfl), (gb_w1 7 rfl rfl), gb_nmX2, gb_de12, (by decide +kernel), (fun _ => ⟨(gb_w4 106 rfl rfl), (gb_w4 107 rfl rfl), _, _, rfl⟩), (fun h => absurd h (by decide +kernel)), (fun h => absurd h (by decide +kernel))⟩
theorem gb_T120 : gb_Tb 120 := ⟨(gb_w4 94 rfl rfl), (gb_w1 5 rfl rfl), gb_nmX4, gb_de10, (by decide +kernel), (fun _ => ⟨(gb_w4 92 rfl rfl), (gb_w4 93 rfl rfl), _, _, rfl⟩), (fun h => absurd h (by decide +kernel)), (fun h => absurd h (by decide +kernel))⟩
theorem gb_T121 : gb_Tb 121 := ⟨(gb_w4 90 rfl rfl), (gb_w1 7 rfl rfl), gb_nmX2, gb_de12, (by decide +kernel), (fun _ => ⟨(gb_w4 88 rfl rfl), (gb_w4 89 rfl rfl), _, _, rfl⟩), (fun h => absurd h (by decide +kernel)), (fun h => absurd h (by decide +kernel))⟩
theorem gb_T122 : gb_Tb 122 := ⟨(gb_w4 17 rfl rfl), (gb_w1 7 rfl rfl), gb_nmX2, gb_de3, (by decide +kernel), (fun _ => ⟨(gb_w4 15 rfl rfl), (gb_w4 16 rfl rfl), _, _, rfl⟩), (fun h => absurd h (by decide +kernel)), (fun h => absurd h (by decide +kernel))⟩
theorem gb_T123 : gb_Tb 123 := ⟨(gb_w3 237 rfl rfl), (gb_w1 7 rfl rfl), gb_nmX2, gb_de20, (by decide +kernel), (fun _ => ⟨(gb_w3 235 rfl rfl), (gb_w3 236 rfl rfl), _, _, rfl⟩), (fun h => absurd h (by decide +kernel)), (fun h => absurd h (by decide +kernel))⟩
theorem gb_T124 : gb_Tb 124 := ⟨(gb_w3 195 rfl rfl), (gb_w1 1 rfl rfl), gb_nmX11, gb_de3, (by decide +kernel), (fun _ => ⟨(gb_w3 193 rfl rfl), (gb_w3 194 rfl rfl), _, _, rfl⟩), (fun h => absurd h (by decide +kernel)), (fun h => absurd h (by decide +kernel))⟩
theorem gb_T125 : gb_Tb 125 := ⟨(gb_w7 140 rfl rfl), (gb_w1 13 rfl rfl), gb_nmX12, gb_de25, (by decide +kernel), (fun h => absurd h (by decide +kernel)), (fun _ => (gb_w7 139 rfl rfl)), (fun h => absurd h (by decide +kernel))⟩
theorem gb_T126 : gb_Tb 126 := ⟨(gb_w7 144 rfl rfl), (gb_w1 13 rfl rfl), gb_nmX12, gb_de8, (by decide +kernel), (fun _ => ⟨(gb_w7 143 rfl rfl), (gb_w 46 rfl rfl), _, _, rfl⟩), (fun h => absurd h (by decide +kernel)), (fun h => absurd h (by decide +kernel))⟩
theorem gb_T127 : gb_Tb 127 := ⟨(gb_w8 194 rfl rfl), (gb_w1 13 rfl rfl), gb_nmX12, gb_de3, (by decide +kernel), (fun _ => ⟨(gb_w8 193 rfl rfl), (gb_w 99 rfl rfl), _, _, rfl⟩), (fun h => absurd h (by decide +kernel)), (fun h => absurd h (by decide +kernel))⟩
theorem gb_T128 : gb_Tb 128 := ⟨(gb_w8 207 rfl rfl), (gb_w1 13 rfl rfl), gb_nmX12, gb_de3, (by decide +kernel), (fun _ => ⟨(gb_w8 206 rfl rfl), (gb_w 100 rfl rfl), _, _, rfl⟩), (fun h => absurd h (by decide +kernel)), (fun h => absurd h (by decide +kernel))⟩
theorem gb_T129 : gb_Tb 129 := ⟨(gb_w7 164 rfl rfl), (gb_w1 13 rfl rfl), gb_nmX12, gb_de9, (by decide +kernel), (fun _ => ⟨(gb_w7 163 rfl rfl), (gb_w 50 rfl rfl), _, _, rfl⟩), (fun h => absurd h (by decide +kernel)), (fun h => absurd h (by decide +kernel))⟩
theorem gb_T130 : gb_Tb 130 := ⟨(gb_w7 176 rfl rfl), (gb_w1 13 rfl rfl), gb_nmX12, gb_de9, (by decide +kernel), (fun _ => ⟨(gb_w7 175 rfl rfl), (gb_w 53 rfl rfl), _, _, rfl⟩), (fun h => absurd h (by decide +kernel)), (fun h => absurd h (by decide +kernel))⟩
theorem gb_T131 : gb_Tb 131 := ⟨(gb_w8 55 rfl rfl), (gb_w1 13 rfl rfl), gb_nmX12, gb_de9, (by decide +kernel), (fun _ => ⟨(gb_w8 54 rfl rfl), (gb_w 76 rfl rfl), _, _, rfl⟩), (fun h => absurd h (by decide +kernel)), (fun h => absurd h (by decide +kernel))⟩
theorem gb_T132 : gb_Tb 132 := ⟨(gb_w7 195 rfl rfl), (gb_w1 13 rfl rfl), gb_nmX12, gb_de6, (by decide +kernel), (fun _ => ⟨(gb_w7 194 rfl rfl), (gb_w 57 rfl rfl), _, _, rfl⟩), (fun h => absurd h (by decide +kernel)), (fun h => absurd h (by decide +kernel))⟩
theorem gb_T133 : gb_Tb 133 := ⟨(gb_w8 59 rfl rfl), (gb_w1 13 rfl rfl), gb_nmX12, gb_de10, (by decide +kernel), (fun _ => ⟨(gb_w8 58 rfl rfl), (gb_w 77 rfl rfl), _, _, rfl⟩), (fun h => absurd h (by decide +kernel)), (fun h => absurd h (by decide +kernel))⟩
theorem gb_T134 : gb_Tb 134 := ⟨(gb_w8 39 rfl rfl), (gb_w1 13 rfl rfl), gb_nmX12, gb_de3, (by decide +kernel), (fun _ => ⟨(gb_w8 38 rfl rfl), (gb_w 73 rfl rfl), _, _, rfl⟩), (fun h => absurd h (by decide +kernel)), (fun h => absurd h (by decide +kernel))⟩
theorem gb_T135 : gb_Tb 135 := ⟨(gb_w8 35 rfl rfl), (gb_w1 13 rfl rfl), gb_nmX12, gb_de9, (by decide +kernel), (fun _ => ⟨(gb_w8 34 rfl rfl), (gb_w 72 rfl rfl), _, _, rfl⟩), (fun h => absurd h (by decide +kernel)), (fun h => absurd h (by decide +kernel))⟩
theorem gb_T136 : gb_Tb 136 := ⟨(gb_w8 47 rfl rfl), (gb_w1 13 rfl rfl), gb_nmX12, gb_de10, (by decide +kernel), (fun _ => ⟨(gb_w8 46 rfl rfl), (gb_w 75 rfl rfl), _, _, rfl⟩), (fun h => absurd h (by decide +kernel)), (fun h => absurd h (by decide +kernel))⟩
theorem gb_T137 : gb_Tb 137 := ⟨(gb_w7 191 rfl rfl), (gb_w1 13 rfl rfl), gb_nmX12, gb_de10, (by decide +kernel), (fun _ => ⟨(gb_w7 190 rfl rfl), (gb_w 56 rfl rfl), _, _, rfl⟩), (fun h => absurd h (by decide +kernel)), (fun h => absurd h (by decide +kernel))⟩
theorem gb_T138 : gb_Tb 138 := ⟨(gb_w7 152 rfl rfl), (gb_w1 13 rfl rfl), gb_nmX12, gb_de0, (by decide +kernel), (fun _ => ⟨(gb_w7 151 rfl rfl), (gb_w 48 rfl rfl), _, _, rfl⟩), (fun h => absurd h (by decide +kernel)), (fun h => absurd h (by decide +kernel))⟩
theorem gb_T139 : gb_Tb 139 := ⟨(gb_w7 180 rfl rfl), (gb_w1 13 rfl rfl), gb_nmX12, gb_de12, (by decide +kernel), (fun _ => ⟨(gb_w7 179 rfl rfl), (gb_w 54 rfl rfl), _, _, rfl⟩), (fun h => absurd h (by decide +kernel)), (fun h => absurd h (by decide +kernel))⟩
theorem gb_T140 : gb_Tb 140 := ⟨(gb_w8 43 rfl rfl), (gb_w1 13 rfl rfl), gb_nmX12, gb_de10, (by decide +kernel), (fun _ => ⟨(gb_w8 42 rfl rfl), (gb_w 74 rfl rfl), _, _, rfl⟩), (fun h => absurd h (by decide +kernel)), (fun h => absurd h (by decide +kernel))⟩
theorem gb_T141 : gb_Tb 141 := ⟨(gb_w8 23 rfl rfl), (gb_w1 13 rfl rfl), gb_nmX12, gb_de20, (by decide +kernel), (fun _ => ⟨(gb_w8 22 rfl rfl), (gb_w 70 rfl rfl), _, _, rfl⟩), (fun h => absurd h (by decide +kernel)), (fun h => absurd h (by decide +kernel))⟩
theorem gb_T142 : gb_Tb 142 := ⟨(gb_w8 19 rfl rfl), (gb_w1 13 rfl rfl), gb_nmX12, gb_de10, (by decide +kernel), (fun _ => ⟨(gb_w8 18 rfl rfl), (gb_w 69 rfl rfl), _, _, rfl⟩), (fun h => absurd h (by decide +kernel)), (fun h => absurd h (by decide +kernel))⟩
theorem gb_T143 : gb_Tb 143 := ⟨(gb_w7 187 rfl rfl), (gb_w1 13 rfl rfl), gb_nmX12, gb_de12, (by decide +kernel), (fun _ => ⟨(gb_w7 186 rfl rfl), (gb_w 55 rfl rfl), _, _, rfl⟩), (fun h => absurd h (by decide +kernel)), (fun h => absurd h (by decide +kernel))⟩
theorem gb_T144 : gb_Tb 144 := ⟨(gb_w7 239 rfl rfl), (gb_w1 13 rfl rfl), gb_nmX12, gb_de12, (by decide +kernel), (fun _ => ⟨(gb_w7 238 rfl rfl), (gb_w 66 rfl rfl), _, _, rfl⟩), (fun h => absurd h (by decide +kernel)), (fun h => absurd h (by decide +kernel))⟩
theorem gb_T145 : gb_Tb 145 := ⟨(gb_w7 172 rfl rfl), (gb_w1 13 rfl rfl), gb_nmX12, gb_de9, (by decide +kernel), (fun _ => ⟨(gb_w7 171 rfl rfl), (gb_w 52 rfl rfl), _, _, rfl⟩), (fun h => absurd h (by decide +kernel)), (fun h => absurd h (by decide +kernel))⟩
theorem gb_T146 : gb_Tb 146 := ⟨(gb_w7 203 rfl rfl), (gb_w1 13 rfl rfl), gb_nmX12, gb_de0, (by decide +kernel), (fun _ => ⟨(gb_w7 202 rfl rfl), (gb_w 59 rfl rfl), _, _, rfl⟩), (fun h => absurd h (by decide +kernel)), (fun h => absurd h (by decide +kernel))⟩
theorem gb_T147 : gb_Tb 147 := ⟨(gb_w7 207 rfl rfl), (gb_w1 13 rfl rfl), gb_nmX12, gb_de0, (by decide +kernel), (fun _ => ⟨(gb_w7 206 rfl rfl), (gb_w 60 rfl rfl), _, _, rfl⟩), (fun h => absurd h (by decide +kernel)), (fun h => absurd h (by decide +kernel))⟩
theorem gb_T148 : gb_Tb 148 := ⟨(gb_w7 199 rfl rfl), (gb_w1 13 rfl rfl), gb_nmX12, gb_de0, (by decide +kernel), (fun _ => ⟨(gb_w7 198 rfl rfl), (gb_w 58 rfl rfl), _, _, rfl⟩), (fun h => absurd h (by decide +kernel)), (fun h => absurd h (by decide +kernel))⟩
theorem gb_T149 : gb_Tb 149 := ⟨(gb_w7 235 rfl rfl), (gb_w1 13 rfl rfl), gb_nmX12, gb_de26, (by decide +kernel), (fun _ => ⟨(gb_w7 234 rfl rfl), (gb_w 65 rfl rfl), _, _, rfl⟩), (fun h => absurd h (by decide +kernel)), (fun h => absurd h (by decide +kernel))⟩
theorem gb_T150 : gb_Tb 150 := ⟨(gb_w7 235 rfl rfl), (gb_w1 13 rfl rfl), gb_nmX12, gb_de26, (by decide +kernel), (fun _ => ⟨(gb_w7 234 rfl rfl), (gb_w 65 rfl rfl), _, _, rfl⟩), (fun h => absurd h (by decide +kernel)), (fun h => absurd h (by decide +kernel))⟩
theorem gb_T151 : gb_Tb 151 := ⟨(gb_w7 235 rfl rfl), (gb_w1 13 rfl rfl), gb_nmX12, gb_de26, (by decide +kernel), (fun _ => ⟨(gb_w7 234 rfl rfl), (gb_w 65 rfl rfl), _, _, rfl⟩), (fun h => absurd h (by decide +kernel)), (fun h => absurd h (by decide +kernel))⟩
theorem gb_T152 : gb_Tb 152 := ⟨(gb_w7 235 rfl rfl), (gb_w1 13 rfl rfl), gb_nmX12, gb_de26, (by decide +kernel), (fun _ => ⟨(gb_w7 234 rfl rfl), (gb_w 65 rfl rfl), _, _, rfl⟩), (fun h => absurd h (by decide +kernel)), (fun h => absurd h (by decide +kernel))⟩
theorem gb_T153 : gb_Tb 153 := ⟨(gb_w7 231 rfl rfl), (gb_w1 13 rfl rfl), gb_nmX12, gb_de0, (by decide +kernel), (fun _ => ⟨(gb_w7 230 rfl rfl), (gb_w 64 rfl rfl), _, _, rfl⟩), (fun h => absurd h (by decide +kernel)), (fun h => absurd h (by decide +kernel))⟩
theorem gb_T154 : gb_Tb 154 := ⟨(gb_w7 122 rfl rfl), (gb_w1 13 rfl rfl), gb_nmX12, gb_de9, (by decide +kernel), (fun _ => ⟨(gb_w7 121 rfl rfl), (gb_w 42 rfl rfl), _, _, rfl⟩), (fun h => absurd h (by decide +kernel)), (fun h => absurd h (by decide +kernel))⟩
theorem gb_T155 : gb_Tb 155 := ⟨(gb_w7 223 rfl rfl), (gb_w1 13 rfl rfl), gb_nmX12, gb_de10, (by decide +kernel), (fun _ => ⟨(gb_w7 222 rfl rfl), (gb_w 63 rfl rfl), _, _, rfl⟩), (fun h => absurd h (by decide +kernel)), (fun h => absurd h (by decide +kernel))⟩
theorem gb_T156 : gb_Tb 156 := ⟨(gb_w7 219 rfl rfl), (gb_w1 13 rfl rfl), gb_nmX12, gb_de10, (by decide +kernel), (fun _ => ⟨(gb_w7 218 rfl rfl), (gb_w 62 rfl rfl), _, _, rfl⟩), (fun h => absurd h (by decide +kernel)), (fun h => absurd h (by decide +kernel))⟩
theorem gb_T157 : gb_Tb 157 := ⟨(gb_w7 168 rfl rfl), (gb_w1 13 rfl rfl), gb_nmX12, gb_de10, (by decide +kernel), (fun _ => ⟨(gb_w7 167 rfl rfl), (gb_w 51 rfl rfl), _, _, rfl⟩), (fun h => absurd h (by decide +kernel)), (fun h => absurd h (by decide +kernel))⟩
theorem gb_T158 : gb_Tb 158 := ⟨(gb_w7 129 rfl rfl), (gb_w1 13 rfl rfl), gb_nmX12, gb_de9, (by decide +kernel), (fun _ => ⟨(gb_w7 128 rfl rfl), (gb_w 43 rfl rfl), _, _, rfl⟩), (fun h => absurd h (by decide +kernel)), (fun h => absurd h (by decide +kernel))⟩
theorem gb_T159 : gb_Tb 159 := ⟨(gb_w8 211 rfl rfl), (gb_w1 13 rfl rfl), gb_nmX12, gb_de20, (by decide +kernel), (fun _ => ⟨(gb_w8 210 rfl rfl), (gb_w 101 rfl rfl), _, _, rfl⟩), (fun h => absurd h (by decide +kernel)), (fun h => absurd h (by decide +kernel))⟩
theorem gb_T160 : gb_Tb 160 := ⟨(gb_w7 156 rfl rfl), (gb_w1 13 rfl rfl), gb_nmX12, gb_de5, (by decide +kernel), (fun _ => ⟨(gb_w7 155 rfl rfl), (gb_w 49 rfl rfl), _, _, rfl⟩), (fun h => absurd h (by decide +kernel)), (fun h => absurd h (by decide +kernel))⟩
theorem gb_T161 : gb_Tb 161 := ⟨(gb_w8 27 rfl rfl), (gb_w1 13 rfl rfl), gb_nmX12, gb_de1, (by decide +kernel), (fun _ => ⟨(gb_w8 26 rfl rfl), (gb_w 71 rfl rfl), _, _, rfl⟩), (fun h => absurd h (by decide +kernel)), (fun h => absurd h (by decide +kernel))⟩
theorem gb_T162 : gb_Tb 162 := ⟨(gb_w8 3 rfl rfl), (gb_w1 13 rfl rfl), gb_nmX12, gb_de5, (by decide +kernel), (fun _ => ⟨(gb_w8 2 rfl rfl), (gb_w 67 rfl rfl), _, _, rfl⟩), (fun h => absurd h (by decide +kernel)), (fun h => absurd h (by decide +kernel))⟩
theorem gb_T163 : gb_Tb 163 := ⟨(gb_w8 11 rfl rfl), (gb_w1 13 rfl rfl), gb_nmX12, gb_de3, (by decide +kernel), (fun _ => ⟨(gb_w8 10 rfl rfl), (gb_w 68 rfl rfl), _, _, rfl⟩), (fun h => absurd h (by decide +kernel)), (fun h => absurd h (by decide +kernel))⟩
theorem gb_T164 : gb_Tb 164 := ⟨(gb_w7 211 rfl rfl), (gb_w1 13 rfl rfl), gb_nmX12, gb_de27, (by decide +kernel), (fun _ => ⟨(gb_w7 210 rfl rfl), (gb_w 61 rfl rfl), _, _, rfl⟩), (fun h => absurd h (by decide +kernel)), (fun h => absurd h (by decide +kernel))⟩
theorem gb_T165 : gb_Tb 165 := ⟨(gb_w7 148 rfl rfl), (gb_w1 13 rfl rfl), gb_nmX12, gb_de22, (by decide +kernel), (fun _ => ⟨(gb_w7 147 rfl rfl), (gb_w 47 rfl rfl), _, _, rfl⟩), (fun h => absurd h (by decide +kernel)), (fun h => absurd h (by decide +kernel))⟩
theorem gb_T166 : gb_Tb 166 := ⟨(gb_w8 215 rfl rfl), (gb_w1 13 rfl rfl), gb_nmX12, gb_de27, (by decide +kernel), (fun _ => ⟨(gb_w8 214 rfl rfl), (gb_w 102 rfl rfl), _, _, rfl⟩), (fun h => absurd h (by decide +kernel)), (fun h => absurd h (by decide +kernel))⟩
theorem gb_T167 : gb_Tb 167 := ⟨(gb_w8 190 rfl rfl), (gb_w1 13 rfl rfl), gb_nmX12, gb_de8, (by decide +kernel), (fun _ => ⟨(gb_w8 189 rfl rfl), (gb_w 98 rfl rfl), _, _, rfl⟩), (fun h => absurd h (by decide +kernel)), (fun h => absurd h (by decide +kernel))⟩
theorem gb_T168 : gb_Tb 168 := ⟨(gb_w8 186 rfl rfl), (gb_w1 13 rfl rfl), gb_nmX12, gb_de3, (by decide +kernel), (fun _ => ⟨(gb_w8 184 rfl rfl), (gb_w8 185 rfl rfl), _, _, rfl⟩), (fun h => absurd h (by decide +kernel)), (fun h => absurd h (by decide +kernel))⟩
theorem gb_T169 : gb_Tb 169 := ⟨(gb_w4 186 rfl rfl), (gb_w1 1 rfl rfl), gb_nmX11, gb_de3, (by decide +kernel), (fun _ => ⟨(gb_w4 184 rfl rfl), (gb_w4 185 rfl rfl), _, _, rfl⟩), (fun h => absurd h (by decide +kernel)), (fun h => absurd h (by decide +kernel))⟩
theorem gb_T170 : gb_Tb 170 := ⟨(gb_w8 178 rfl rfl), (gb_w1 13 rfl rfl), gb_nmX12, gb_de3, (by decide +kernel), (fun _ => ⟨(gb_w8 176 rfl rfl), (gb_w8 177 rfl rfl), _, _, rfl⟩), (fun h => absurd h (by decide +kernel)), (fun h => absurd h (by decide +kernel))⟩
theorem gb_T171 : gb_Tb 171 := ⟨(gb_w4 190 rfl rfl), (gb_w1 1 rfl rfl), gb_nmX11, gb_de3, (by decide +kernel), (fun _ => ⟨(gb_w4 188 rfl rfl), (gb_w4 189 rfl rfl), _, _, rfl⟩), (fun h => absurd h (by decide +kernel)), (fun h => absurd h (by decide +kernel))⟩
theorem gb_T172 : gb_Tb 172 := ⟨(gb_w8 182 rfl rfl), (gb_w1 13 rfl rfl), gb_nmX12, gb_de3, (by decide +kernel), (fun _ => ⟨(gb_w8 180 rfl rfl), (gb_w8 181 rfl rfl), _, _, rfl⟩), (fun h => absurd h (by decide +kernel)), (fun h => absurd h (by decide +kernel))⟩
theorem gb_T402 : gb_Tb 402 := ⟨(gb_w5 119 rfl rfl), (gb_w1 1 rfl rfl), gb_nmX11, gb_de5, (by decide +kernel), (fun _ => ⟨(gb_w5 118 rfl rfl), (gb_w 30 rfl rfl), _, _, rfl⟩), (fun h => absurd h (by decide +kernel)), (fun h => absurd h (by decide +kernel))⟩
theorem gb_T403 : gb_Tb 403 := ⟨(gb_w5 140 rfl rfl), (gb_w1 1 rfl rfl), gb_nmX11, gb_de5, (by decide +kernel), (fun _ => ⟨(gb_w5 139 rfl rfl), (gb_w 31 rfl rfl), _, _, rfl⟩), (fun h => absurd h (by decide +kernel)), (fun h => absurd h (by decide +kernel))⟩
theorem gb_T404 : gb_Tb 404 := ⟨(gb_w5 115 rfl rfl), (gb_w1 1 rfl rfl), gb_nmX11, gb_de22, (by decide +kernel), (fun _ => ⟨(gb_w5 113 rfl rfl), (gb_w5 114 rfl rfl), _, _, rfl⟩), (fun h => absurd h (by decide +kernel)), (fun h => absurd h (by decide +kernel))⟩
theorem gb_T173 : gb_Tb 173 := ⟨(gb_w7 133 rfl rfl), (gb_w1 13 rfl rfl), gb_nmX12, gb_de28, (by decide +kernel), (fun _ => ⟨(gb_w7 132 rfl rfl), (gb_w 44 rfl rfl), _, _, rfl⟩), (fun h => absurd h (by decide +kernel)), (fun h => absurd h (by decide +kernel))⟩
theorem gb_T174 : gb_Tb 174 := ⟨(gb_w7 137 rfl rfl), (gb_w1 13 rfl rfl), gb_nmX12, gb_de8, (by decide +kernel), (fun _ => ⟨(gb_w7 136 rfl rfl), (gb_w 45 rfl rfl), _, _, rfl⟩), (fun h => absurd h (by decide +kernel)), (fun h => absurd h (by decide +kernel))⟩
theorem gb_T175 : gb_Tb 175 := ⟨(gb_w7 118 rfl rfl), (gb_w1 13 rfl rfl), gb_nmX12, gb_de22, (by decide +kernel), (fun _ => ⟨(gb_w7 116 rfl rfl), (gb_w7 117 rfl rfl), _, _, rfl⟩), (fun h => absurd h (by decide +kernel)), (fun h => absurd h (by decide +kernel))⟩
theorem gb_T405 : gb_Tb 405 := ⟨(gb_w5 154 rfl rfl), (gb_w1 1 rfl rfl), gb_nmX11, gb_de5, (by decide +kernel), (fun _ => ⟨(gb_w5 153 rfl rfl), (gb_w 32 rfl rfl), _, _, rfl⟩), (fun h => absurd h (by decide +kernel)), (fun h => absurd h (by decide +kernel))⟩
theorem gb_T406 : gb_Tb 406 := ⟨(gb_w5 161 rfl rfl), (gb_w1 1 rfl rfl), gb_nmX11, gb_de29, (by decide +kernel), (fun _ => ⟨(gb_w5 160 rfl rfl), (gb_w 33 rfl rfl), _, _, rfl⟩), (fun h => absurd h (by decide +kernel)), (fun h => absurd h (by decide +kernel))⟩
theorem gb_T407 : gb_Tb 407 := ⟨(gb_w5 150 rfl rfl), (gb_w1 1 rfl rfl), gb_nmX11, gb_de10, (by decide +kernel), (fun _ => ⟨(gb_w5 148 rfl rfl), (gb_w5 149 rfl rfl), _, _, rfl⟩), (fun h => absurd h (by decide +kernel)), (fun h => absurd h (by decide +kernel))⟩
theorem gb_T176 : gb_Tb 176 := ⟨(gb_w7 160 rfl rfl), (gb_w1 13 rfl rfl), gb_nmX12, gb_de10, (by decide +kernel), (fun _ => ⟨(gb_w7 158 rfl rfl), (gb_w7 159 rfl rfl), _, _, rfl⟩), (fun h => absurd h (by decide +kernel)), (fun h => absurd h (by decide +kernel))⟩
theorem gb_T177 : gb_Tb 177 := ⟨(gb_w5 174 rfl rfl), (gb_w1 4 rfl rfl), gb_nmX3, gb_de0, (by decide +kernel), (fun _ => ⟨(gb_w5 172 rfl rfl), (gb_w5 173 rfl rfl), _, _, rfl⟩), (fun h => absurd h (by decide +kernel)), (fun h => absurd h (by decide +kernel))⟩
theorem gb_T408 : gb_Tb 408 := ⟨(gb_w5 169 rfl rfl), (gb_w1 1 rfl rfl), gb_nmX11, gb_de10, (by decide +kernel), (fun _ => ⟨(gb_w5 167 rfl rfl), (gb_w5 168 rfl rfl), _, _, rfl⟩), (fun h => absurd h (by decide +kernel)), (fun h => absurd h (by decide +kernel))⟩
theorem gb_T178 : gb_Tb 178 := ⟨(gb_w7 215 rfl rfl), (gb_w1 13 rfl rfl), gb_nmX12, gb_de10, (by decide +kernel), (fun _ => ⟨(gb_w7 213 rfl rfl), (gb_w7 214 rfl rfl), _, _, rfl⟩), (fun h => absurd h (by decide +kernel)), (fun h => absurd h (by decide +kernel))⟩
theorem gb_T409 : gb_Tb 409 := ⟨(gb_w5 181 rfl rfl), (gb_w1 1 rfl rfl), gb_nmX11, gb_de0, (by decide +kernel), (fun _ => ⟨(gb_w5 179 rfl rfl), (gb_w5 180 rfl rfl), _, _, rfl⟩), (fun h => absurd h (by decide +kernel)), (fun h => absurd h (by decide +kernel))⟩
theorem gb_T179 : gb_Tb 179 := ⟨(gb_w7 227 rfl rfl), (gb_w1 13 rfl rfl), gb_nmX12, gb_de0, (by decide +kernel), (fun _ => ⟨(gb_w7 225 rfl rfl), (gb_w7 226 rfl rfl), _, _, rfl⟩), (fun h => absurd h (by decide +kernel)), (fun h => absurd h (by decide +kernel))⟩
theorem gb_T180 : gb_Tb 180 := ⟨(gb_w4 194 rfl rfl), (gb_w1 1 rfl rfl), gb_nmX11, gb_de3, (by decide +kernel), (fun _ => ⟨(gb_w4 192 rfl rfl), (gb_w4 193 rfl rfl), _, _, rfl⟩), (fun h => absurd h (by decide +kernel)), (fun h => absurd h (by decide +kernel))⟩
theorem gb_T181 : gb_Tb 181 := ⟨(gb_w8 7 rfl rfl), (gb_w1 13 rfl rfl), gb_nmX12, gb_de3, (by decide +kernel), (fun _ => ⟨(gb_w8 5 rfl rfl), (gb_w8 6 rfl rfl), _, _, rfl⟩), (fun h => absurd h (by decide +kernel)), (fun h => absurd h (by decide +kernel))⟩
theorem gb_T410 : gb_Tb 410 := ⟨(gb_w5 189 rfl rfl), (gb_w1 1 rfl rfl), gb_nmX11, gb_de10, (by decide +kernel), (fun _ => ⟨(gb_w5 187 rfl rfl), (gb_w5 188 rfl rfl), _, _, rfl⟩), (fun h => absurd h (by decide +kernel)), (fun h => absurd h (by decide +kernel))⟩
theorem gb_T182 : gb_Tb 182 := ⟨(gb_w8 15 rfl rfl), (gb_w1 13 rfl rfl), gb_nmX12, gb_de10, (by decide +kernel), (fun _ => ⟨(gb_w8 13 rfl rfl), (gb_w8 14 rfl rfl), _, _, rfl⟩), (fun h => absurd h (by decide +kernel)), (fun h => absurd h (by decide +kernel))⟩
theorem gb_T411 : gb_Tb 411 := ⟨(gb_w5 201 rfl rfl), (gb_w1 1 rfl rfl), gb_nmX11, gb_de5, (by decide +kernel), (fun _ => ⟨(gb_w5 200 rfl rfl), (gb_w 34 rfl rfl), _, _, rfl⟩), (fun h => absurd h (by decide +kernel)), (fun h => absurd h (by decide +kernel))⟩
theorem gb_T412 : gb_Tb 412 := ⟨(gb_w5 197 rfl rfl), (gb_w1 1 rfl rfl), gb_nmX11, gb_de10, (by decide +kernel), (fun _ => ⟨(gb_w5 195 rfl rfl), (gb_w5 196 rfl rfl), _, _, rfl⟩), (fun h => absurd h (by decide +kernel)), (fun h => absurd h (by decide +kernel))⟩
theorem gb_T183 : gb_Tb 183 := ⟨(gb_w8 31 rfl rfl), (gb_w1 13 rfl rfl), gb_nmX12, gb_de10, (by decide +kernel), (fun _ => ⟨(gb_w8 29 rfl rfl), (gb_w8 30 rfl rfl), _, _, rfl⟩), (fun h => absurd h (by decide +kernel)), (fun h => absurd h (by decide +kernel))⟩
theorem gb_T413 : gb_Tb 413 := ⟨(gb_w5 215 rfl rfl), (gb_w1 1 rfl rfl), gb_nmX11, gb_de5, (by decide +kernel), (fun _ => ⟨(gb_w5 214 rfl rfl), (gb_w 35 rfl rfl), _, _, rfl⟩), (fun h => absurd h (by decide +kernel)), (fun h => absurd h (by decide +kernel))⟩
theorem gb_T414 : gb_Tb 414 := ⟨(gb_w5 211 rfl rfl), (gb_w1 1 rfl rfl), gb_nmX11, gb_de10, (by decide +kernel), (fun _ => ⟨(gb_w5 209 rfl rfl), (gb_w5 210 rfl rfl), _, _, rfl⟩), (fun h => absurd h (by decide +kernel)), (fun h => absurd h (by decide +kernel))⟩
theorem gb_T184 : gb_Tb 184 := ⟨(gb_w8 51 rfl rfl), (gb_w1 13 rfl rfl), gb_nmX12, gb_de10, (by decide +kernel), (fun _ => ⟨(gb_w8 49 rfl rfl), (gb_w8 50 rfl rfl), _, _, rfl⟩), (fun h => absurd h (by decide +kernel)), (fun h => absurd h (by decide +kernel))⟩
theorem gb_T415 : gb_Tb 415 := ⟨(gb_w5 225 rfl rfl), (gb_w1 1 rfl rfl), gb_nmX11, gb_de0, (by decide +kernel), (fun _ => ⟨(gb_w5 223 rfl rfl), (gb_w5 224 rfl rfl), _, _, rfl⟩), (fun h => absurd h (by decide +kernel)), (fun h => absurd h (by decide +kernel))⟩
theorem gb_T185 : gb_Tb 185 := ⟨(gb_w8 63 rfl rfl), (gb_w1 13 rfl rfl), gb_nmX12, gb_de0, (by decide +kernel), (fun _ => ⟨(gb_w8 61 rfl rfl), (gb_w8 62 rfl rfl), _, _, rfl⟩), (fun h => absurd h (by decide +kernel)), (fun h => absurd h (by decide +kernel))⟩
theorem gb_T186 : gb_Tb 186 := ⟨(gb_w4 207 rfl rfl), (gb_w1 4 rfl rfl), gb_nmX3, gb_de9, (by decide +kernel), (fun _ => ⟨(gb_w4 205 rfl rfl), (gb_w4 206 rfl rfl), _, _, rfl⟩), (fun h => absurd h (by decide +kernel)), (fun h => absurd h (by decide +kernel))⟩
theorem gb_T187 : gb_Tb 187 := ⟨(gb_w4 203 rfl rfl), (gb_w1 4 rfl rfl), gb_nmX3, gb_de3, (by decide +kernel), (fun _ => ⟨(gb_w4 201 rfl rfl), (gb_w4 202 rfl rfl), _, _, rfl⟩), (fun h => absurd h (by decide +kernel)), (fun h => absurd h (by decide +kernel))⟩
theorem gb_T188 : gb_Tb 188 := ⟨(gb_w4 199 rfl rfl), (gb_w1 1 rfl rfl), gb_nmX11, gb_de3, (by decide +kernel), (fun _ => ⟨(gb_w4 197 rfl rfl), (gb_w4 198 rfl rfl), _, _, rfl⟩), (fun h => absurd h (by decide +kernel)), (fun h => absurd h (by decide +kernel))⟩
theorem gb_T189 : gb_Tb 189 := ⟨(gb_w8 75 rfl rfl), (gb_w1 13 rfl rfl), gb_nmX12, gb_de9, (by decide +kernel), (fun _ => ⟨(gb_w8 74 rfl rfl), (gb_w 79 rfl rfl), _, _, rfl⟩), (fun h => absurd h (by decide +kernel)), (fun h => absurd h (by decide +kernel))⟩
theorem gb_T190 : gb_Tb 190 := ⟨(gb_w8 71 rfl rfl), (gb_w1 13 rfl rfl), gb_nmX12, gb_de3, (by decide +kernel), (fun _ => ⟨(gb_w8 70 rfl rfl), (gb_w 78 rfl rfl), _, _, rfl⟩), (fun h => absurd h (by decide +kernel)), (fun h => absurd h (by decide +kernel))⟩
theorem gb_T191 : gb_Tb 191 := ⟨(gb_w8 67 rfl rfl), (gb_w1 13 rfl rfl), gb_nmX12, gb_de3, (by decide +kernel), (fun _ => ⟨(gb_w8 65 rfl rfl), (gb_w8 66 rfl rfl), _, _, rfl⟩), (fun h => absurd h (by decide +kernel)), (fun h => absurd h (by decide +kernel))⟩
theorem gb_T416 : gb_Tb 416 := ⟨(gb_w5 233 rfl rfl), (gb_w1 1 rfl rfl), gb_nmX11, gb_de10, (by decide +kernel), (fun _ => ⟨(gb_w5 231 rfl rfl), (gb_w5 232 rfl rfl), _, _, rfl⟩), (fun h => absurd h (by decide +kernel)), (fun h => absurd h (by decide +kernel))⟩
theorem gb_T192 : gb_Tb 192 := ⟨(gb_w8 219 rfl rfl), (gb_w1 13 rfl rfl), gb_nmX12, gb_de10, (by decide +kernel), (fun _ => ⟨(gb_w8 217 rfl rfl), (gb_w8 218 rfl rfl), _, _, rfl⟩), (fun h => absurd h (by decide +kernel)), (fun h => absurd h (by decide +kernel))⟩
theorem gb_T417 : gb_Tb 417 := ⟨(gb_w6 1 rfl rfl), (gb_w1 1 rfl rfl), gb_nmX11, gb_de10, (by decide +kernel), (fun _ => ⟨(gb_w5 239 rfl rfl), (gb_w6 0 rfl rfl), _, _, rfl⟩), (fun h => absurd h (by decide +kernel)), (fun h => absurd h (by decide +kernel))⟩
theorem gb_T193 : gb_Tb 193 := ⟨(gb_w8 223 rfl rfl), (gb_w1 13 rfl rfl), gb_nmX12, gb_de10, (by decide +kernel), (fun _ => ⟨(gb_w8 221 rfl rfl), (gb_w8 222 rfl rfl), _, _, rfl⟩), (fun h => absurd h (by decide +kernel)), (fun h => absurd h (by decide +kernel))⟩
theorem gb_T418 : gb_Tb 418 := ⟨(gb_w6 9 rfl rfl), (gb_w1 1 rfl rfl), gb_nmX11, gb_de10, (by decide +kernel), (fun _ => ⟨(gb_w6 7 rfl rfl), (gb_w6 8 rfl rfl), _, _, rfl⟩), (fun h => absurd h (by decide +kernel)), (fun h => absurd h (by decide +kernel))⟩
theorem gb_T194 : gb_Tb 194 := ⟨(gb_w8 227 rfl rfl), (gb_w1 13 rfl rfl), gb_nmX12, gb_de10, (by decide +kernel), (fun _ => ⟨(gb_w8 225 rfl rfl), (gb_w8 226 rfl rfl), _, _, rfl⟩), (fun h => absurd h (by decide +kernel)), (fun h => absurd h (by decide +kernel))⟩
theorem gb_T419 : gb_Tb 419 := ⟨(gb_w6 17 rfl rfl), (gb_w1 1 rfl rfl), gb_nmX11, gb_de10, (by decide +kernel), (fun _ => ⟨(gb_w6 15 rfl rfl), (gb_w6 16 rfl rfl), _, _, rfl⟩), (fun h => absurd h (by decide +kernel)), (fun h => absurd h (by decide +kernel))⟩
theorem gb_T195 : gb_Tb 195 := ⟨(gb_w8 231 rfl rfl), (gb_w1 13 rfl rfl), gb_nmX12, gb_de10, (by decide +kernel), (fun _ => ⟨(gb_w8 229 rfl rfl), (gb_w8 230 rfl rfl), _, _, rfl⟩), (fun h => absurd h (by decide +kernel)), (fun h => absurd h (by decide +kernel))⟩
theorem gb_T420 : gb_Tb 420 := ⟨(gb_w6 25 rfl rfl), (gb_w1 1 rfl rfl), gb_nmX11, gb_de10, (by decide +kernel), (fun _ => ⟨(gb_w6 23 rfl rfl), (gb_w6 24 rfl rfl), _, _, rfl⟩), (fun h => absurd h (by decide +kernel)), (fun h => absurd h (by decide +kernel))⟩
theorem gb_T196 : gb_Tb 196 := ⟨(gb_w8 235 rfl rfl), (gb_w1 13 rfl rfl), gb_nmX12, gb_de10, (by decide +kernel), (fun _ => ⟨(gb_w8 233 rfl rfl), (gb_w8 234 rfl rfl), _, _, rfl⟩), (fun h => absurd h (by decide +kernel)), (fun h => absurd h (by decide +kernel))⟩
theorem gb_T421 : gb_Tb 421 := ⟨(gb_w6 33 rfl rfl), (gb_w1 1 rfl rfl), gb_nmX11, gb_de0, (by decide +kernel), (fun _ => ⟨(gb_w6 31 rfl rfl), (gb_w6 32 rfl rfl), _, _, rfl⟩), (fun h => absurd h (by decide +kernel)), (fun h => absurd h (by decide +kernel))⟩
theorem gb_T197 : gb_Tb 197 := ⟨(gb_w8 239 rfl rfl), (gb_w1 13 rfl rfl), gb_nmX12, gb_de0, (by decide +kernel), (fun _ => ⟨(gb_w8 237 rfl rfl), (gb_w8 238 rfl rfl), _, _, rfl⟩), (fun h => absurd h (by decide +kernel)), (fun h => absurd h (by decide +kernel))⟩
theorem gb_T422 : gb_Tb 422 := ⟨(gb_w6 40 rfl rfl), (gb_w1 1 rfl rfl), gb_nmX11, gb_de0, (by decide +kernel), (fun _ => ⟨(gb_w6 38 rfl rfl), (gb_w6 39 rfl rfl), _, _, rfl⟩), (fun h => absurd h (by decide +kernel)), (fun h => absurd h (by decide +kernel))⟩
theorem gb_T198 : gb_Tb 198 := ⟨(gb_w9 3 rfl rfl), (gb_w1 13 rfl rfl), gb_nmX12, gb_de0, (by decide +kernel), (fun _ => ⟨(gb_w9 1 rfl rfl), (gb_w9 2 rfl rfl), _, _, rfl⟩), (fun h => absurd h (by decide +kernel)), (fun h => absurd h (by decide +kernel))⟩
theorem gb_T423 : gb_Tb 423 := ⟨(gb_w6 49 rfl rfl), (gb_w1 1 rfl rfl), gb_nmX11, gb_de10, (by decide +kernel), (fun _ => ⟨(gb_w6 47 rfl rfl), (gb_w6 48 rfl rfl), _, _, rfl⟩), (fun h => absurd h (by decide +kernel)), (fun h => absurd h (by decide +kernel))⟩
theorem gb_T199 : gb_Tb 199 := ⟨(gb_w9 7 rfl rfl), (gb_w1 13 rfl rfl), gb_nmX12, gb_de10, (by decide +kernel), (fun _ => ⟨(gb_w9 5 rfl rfl), (gb_w9 6 rfl rfl), _, _, rfl⟩), (fun h => absurd h (by decide +kernel)), (fun h => absurd h (by decide +kernel))⟩
theorem gb_T424 : gb_Tb 424 := ⟨(gb_w6 72 rfl rfl), (gb_w1 1 rfl rfl), gb_nmX11, gb_de0, (by decide +kernel), (fun _ => ⟨(gb_w6 70 rfl rfl), (gb_w6 71 rfl rfl), _, _, rfl⟩), (fun h => absurd h (by decide +kernel)), (fun h => absurd h (by decide +kernel))⟩
theorem gb_T200 : gb_Tb 200 := ⟨(gb_w9 15 rfl rfl), (gb_w1 13 rfl rfl), gb_nmX12, gb_de30, (by decide +kernel), (fun _ => ⟨(gb_w9 14 rfl rfl), (gb_w 103 rfl rfl), _, _, rfl⟩), (fun h => absurd h (by decide +kernel)), (fun h => absurd h (by decide +kernel))⟩
theorem gb_T201 : gb_Tb 201 := ⟨(gb_w9 11 rfl rfl), (gb_w1 13 rfl rfl), gb_nmX12, gb_de0, (by decide +kernel), (fun _ => ⟨(gb_w9 9 rfl rfl), (gb_w9 10 rfl rfl), _, _, rfl⟩), (fun h => absurd h (by decide +kernel)), (fun h => absurd h (by decide +kernel))⟩
theorem gb_T425 : gb_Tb 425 := ⟨(gb_w6 79 rfl rfl), (gb_w1 1 rfl rfl), gb_nmX11, gb_de0, (by decide +kernel), (fun _ => ⟨(gb_w6 77 rfl rfl), (gb_w6 78 rfl rfl), _, _, rfl⟩), (fun h => absurd h (by decide +kernel)), (fun h => absurd h (by decide +kernel))⟩
theorem gb_T202 : gb_Tb 202 := ⟨(gb_w9 19 rfl rfl), (gb_w1 13 rfl rfl), gb_nmX12, gb_de0, (by decide +kernel), (fun _ => ⟨(gb_w9 17 rfl rfl), (gb_w9 18 rfl rfl), _, _, rfl⟩), (fun h => absurd h (by decide +kernel)), (fun h => absurd h (by decide +kernel))⟩
theorem gb_T426 : gb_Tb 426 := ⟨(gb_w6 87 rfl rfl), (gb_w1 1 rfl rfl), gb_nmX11, gb_de0, (by decide +kernel), (fun _ => ⟨(gb_w6 85 rfl rfl), (gb_w6 86 rfl rfl), _, _, rfl⟩), (fun h => absurd h (by decide +kernel)), (fun h => absurd h (by decide +kernel))⟩
theorem gb_T203 : gb_Tb 203 := ⟨(gb_w9 23 rfl rfl), (gb_w1 13 rfl rfl), gb_nmX12, gb_de0, (by decide +kernel), (fun _ => ⟨(gb_w9 21 rfl rfl), (gb_w9 22 rfl rfl), _, _, rfl⟩), (fun h => absurd h (by decide +kernel)), (fun h => absurd h (by decide +kernel))⟩
theorem gb_T204 : gb_Tb 204 := ⟨(gb_w4 234 rfl rfl), (gb_w1 2 rfl rfl), gb_nmX7, gb_de31, (by decide +kernel), (fun _ => ⟨(gb_w4 232 rfl rfl), (gb_w4 233 rfl rfl), _, _, rfl⟩), (fun h => absurd h (by decide +kernel)), (fun h => absurd h (by decide +kernel))⟩
theorem gb_T205 : gb_Tb 205 := ⟨(gb_w4 238 rfl rfl), (gb_w1 4 rfl rfl), gb_nmX3, gb_de3, (by decide +kernel), (fun _ => ⟨(gb_w4 236 rfl rfl), (gb_w4 237 rfl rfl), _, _, rfl⟩), (fun h => absurd h (by decide +kernel)), (fun h => absurd h (by decide +kernel))⟩
theorem gb_T206 : gb_Tb 206 := ⟨(gb_w4 230 rfl rfl), (gb_w1 4 rfl rfl), gb_nmX3, gb_de3, (by decide +kernel), (fun _ => ⟨(gb_w4 228 rfl rfl), (gb_w4 229 rfl rfl), _, _, rfl⟩), (fun h => absurd h (by decide +kernel)), (fun h => absurd h (by decide +kernel))⟩
theorem gb_T427 : gb_Tb 427 := ⟨(gb_w6 95 rfl rfl), (gb_w1 1 rfl rfl), gb_nmX11, gb_de0, (by decide +kernel), (fun _ => ⟨(gb_w6 93 rfl rfl), (gb_w6 94 rfl rfl), _, _, rfl⟩), (fun h => absurd h (by decide +kernel)), (fun h => absurd h (by decide +kernel))⟩
theorem gb_T207 : gb_Tb 207 := ⟨(gb_w9 36 rfl rfl), (gb_w1 13 rfl rfl), gb_nmX12, gb_de3, (by decide +kernel), (fun _ => ⟨(gb_w9 35 rfl rfl), (gb_w 105 rfl rfl), _, _, rfl⟩), (fun h => absurd h (by decide +kernel)), (fun h => absurd h (by decide +kernel))⟩
theorem gb_T208 : gb_Tb 208 := ⟨(gb_w9 32 rfl rfl), (gb_w1 13 rfl rfl), gb_nmX12, gb_de3, (by decide +kernel), (fun _ => ⟨(gb_w9 31 rfl rfl), (gb_w 104 rfl rfl), _, _, rfl⟩), (fun h => absurd h (by decide +kernel)), (fun h => absurd h (by decide +kernel))⟩
theorem gb_T209 : gb_Tb 209 := ⟨(gb_w9 27 rfl rfl), (gb_w1 13 rfl rfl), gb_nmX12, gb_de0, (by decide +kernel), (fun _ => ⟨(gb_w9 25 rfl rfl), (gb_w9 26 rfl rfl), _, _, rfl⟩), (fun h => absurd h (by decide +kernel)), (fun h => absurd h (by decide +kernel))⟩
theorem gb_T428 : gb_Tb 428 := ⟨(gb_w6 105 rfl rfl), (gb_w1 1 rfl rfl), gb_nmX11, gb_de10, (by decide +kernel), (fun _ => ⟨(gb_w6 103 rfl rfl), (gb_w6 104 rfl rfl), _, _, rfl⟩), (fun h => absurd h (by decide +kernel)), (fun h => absurd h (by decide +kernel))⟩
theorem gb_T210 : gb_Tb 210 := ⟨(gb_w9 40 rfl rfl), (gb_w1 13 rfl rfl), gb_nmX12, gb_de10, (by decide +kernel), (fun _ => ⟨(gb_w9 38 rfl rfl), (gb_w9 39 rfl rfl), _, _, rfl⟩), (fun h => absurd h (by decide +kernel)), (fun h => absurd h (by decide +kernel))⟩
theorem gb_T211 : gb_Tb 211 := ⟨(gb_w6 119 rfl rfl), (gb_w1 4 rfl rfl), gb_nmX3, gb_de0, (by decide +kernel), (fun _ => ⟨(gb_w6 117 rfl rfl), (gb_w6 118 rfl rfl), _, _, rfl⟩), (fun h => absurd h (by decide +kernel)), (fun h => absurd h (by decide +kernel))⟩
theorem gb_T429 : gb_Tb 429 := ⟨(gb_w6 115 rfl rfl), (gb_w1 1 rfl rfl), gb_nmX11, gb_de10, (by decide +kernel), (fun _ => ⟨(gb_w6 113 rfl rfl), (gb_w6 114 rfl rfl), _, _, rfl⟩), (fun h => absurd h (by decide +kernel)), (fun h => absurd h (by decide +kernel))⟩
theorem gb_T212 : gb_Tb 212 := ⟨(gb_w9 44 rfl rfl), (gb_w1 13 rfl rfl), gb_nmX12, gb_de10, (by decide +kernel), (fun _ => ⟨(gb_w9 42 rfl rfl), (gb_w9 43 rfl rfl), _, _, rfl⟩), (fun h => absurd h (by decide +kernel)), (fun h => absurd h (by decide +kernel))⟩
theorem gb_T430 : gb_Tb 430 := ⟨(gb_w6 128 rfl rfl), (gb_w1 1 rfl rfl), gb_nmX11, gb_de10, (by decide +kernel), (fun _ => ⟨(gb_w6 126 rfl rfl), (gb_w6 127 rfl rfl), _, _, rfl⟩), (fun h => absurd h (by decide +kernel)), (fun h => absurd h (by decide +kernel))⟩
theorem gb_T213 : gb_Tb 213 := ⟨(gb_w9 49 rfl rfl), (gb_w1 13 rfl rfl), gb_nmX12, gb_de10, (by decide +kernel), (fun _ => ⟨(gb_w9 47 rfl rfl), (gb_w9 48 rfl rfl), _, _, rfl⟩), (fun h => absurd h (by decide +kernel)), (fun h => absurd h (by decide +kernel))⟩
theorem gb_T431 : gb_Tb 431 := ⟨(gb_w6 136 rfl rfl), (gb_w1 1 rfl rfl), gb_nmX11, gb_de10, (by decide +kernel), (fun _ => ⟨(gb_w6 134 rfl rfl), (gb_w6 135 rfl rfl), _, _, rfl⟩), (fun h => absurd h (by decide +kernel)), (fun h => absurd h (by decide +kernel))⟩
theorem gb_T214 : gb_Tb 214 := ⟨(gb_w9 53 rfl rfl), (gb_w1 13 rfl rfl), gb_nmX12, gb_de10, (by decide +kernel), (fun _ => ⟨(gb_w9 51 rfl rfl), (gb_w9 52 rfl rfl), _, _, rfl⟩), (fun h => absurd h (by decide +kernel)), (fun h => absurd h (by decide +kernel))⟩
theorem gb_T432 : gb_Tb 432 := ⟨(gb_w6 150 rfl rfl), (gb_w1 1 rfl rfl), gb_nmX11, gb_de5, (by decide +kernel), (fun _ => ⟨(gb_w6 149 rfl rfl), (gb_w 36 rfl rfl), _, _, rfl⟩), (fun h => absurd h (by decide +kernel)), (fun h => absurd h (by decide +kernel))⟩
theorem gb_T433 : gb_Tb 433 := ⟨(gb_w6 146 rfl rfl), (gb_w1 1 rfl rfl), gb_nmX11, gb_de10, (by decide +kernel), (fun _ => ⟨(gb_w6 144 rfl rfl), (gb_w6 145 rfl rfl), _, _, rfl⟩), (fun h => absurd h (by decide +kernel)), (fun h => absurd h (by decide +kernel))⟩
theorem gb_T215 : gb_Tb 215 := ⟨(gb_w9 62 rfl rfl), (gb_w1 13 rfl rfl), gb_nmX12, gb_de9, (by decide +kernel), (fun _ => ⟨(gb_w9 61 rfl rfl), (gb_w 106 rfl rfl), _, _, rfl⟩), (fun h => absurd h (by decide +kernel)), (fun h => absurd h (by decide +kernel))⟩
theorem gb_T216 : gb_Tb 216 := ⟨(gb_w9 58 rfl rfl), (gb_w1 13 rfl rfl), gb_nmX12, gb_de10, (by decide +kernel), (fun _ => ⟨(gb_w9 56 rfl rfl), (gb_w9 57 rfl rfl), _, _, rfl⟩), (fun h => absurd h (by decide +kernel)), (fun h => absurd h (by decide +kernel))⟩
theorem gb_T434 : gb_Tb 434 := ⟨(gb_w6 159 rfl rfl), (gb_w1 1 rfl rfl), gb_nmX11, gb_de10, (by decide +kernel), (fun _ => ⟨(gb_w6 157 rfl rfl), (gb_w6 158 rfl rfl), _, _, rfl⟩), (fun h => absurd h (by decide +kernel)), (fun h => absurd h (by decide +kernel))⟩
theorem gb_T217 : gb_Tb 217 := ⟨(gb_w9 66 rfl rfl), (gb_w1 13 rfl rfl), gb_nmX12, gb_de10, (by decide +kernel), (fun _ => ⟨(gb_w9 64 rfl rfl), (gb_w9 65 rfl rfl), _, _, rfl⟩), (fun h => absurd h (by decide +kernel)), (fun h => absurd h (by decide +kernel))⟩
theorem gb_T435 : gb_Tb 435 := ⟨(gb_w6 166 rfl rfl), (gb_w1 1 rfl rfl), gb_nmX11, gb_de10, (by decide +kernel), (fun _ => ⟨(gb_w6 164 rfl rfl), (gb_w6 165 rfl rfl), _, _, rfl⟩), (fun h => absurd h (by decide +kernel)), (fun h => absurd h (by decide +kernel))⟩
theorem gb_T218 : gb_Tb 218 := ⟨(gb_w9 70 rfl rfl), (gb_w1 13 rfl rfl), gb_nmX12, gb_de10, (by decide +kernel), (fun _ => ⟨(gb_w9 68 rfl rfl), (gb_w9 69 rfl rfl), _, _, rfl⟩), (fun h => absurd h (by decide +kernel)), (fun h => absurd h (by decide +kernel))⟩
theorem gb_T436 : gb_Tb 436 := ⟨(gb_w6 173 rfl rfl), (gb_w1 1 rfl rfl), gb_nmX11, gb_de0, (by decide +kernel), (fun _ => ⟨(gb_w6 171 rfl rfl), (gb_w6 172 rfl rfl), _, _, rfl⟩), (fun h => absurd h (by decide +kernel)), (fun h => absurd h (by decide +kernel))⟩
theorem gb_T219 : gb_Tb 219 := ⟨(gb_w9 74 rfl rfl), (gb_w1 13 rfl rfl), gb_nmX12, gb_de0, (by decide +kernel), (fun _ => ⟨(gb_w9 72 rfl rfl), (gb_w9 73 rfl rfl), _, _, rfl⟩), (fun h => absurd h (by decide +kernel)), (fun h => absurd h (by decide +kernel))⟩
theorem gb_T437 : gb_Tb 437 := ⟨(gb_w6 181 rfl rfl), (gb_w1 1 rfl rfl), gb_nmX11, gb_de10, (by decide +kernel), (fun _ => ⟨(gb_w6 179 rfl rfl), (gb_w6 180 rfl rfl), _, _, rfl⟩), (fun h => absurd h (by decide +kernel)), (fun h => absurd h (by decide +kernel))⟩
theorem gb_T220 : gb_Tb 220 := ⟨(gb_w9 78 rfl rfl), (gb_w1 13 rfl rfl), gb_nmX12, gb_de10, (by decide +kernel), (fun _ => ⟨(gb_w9 76 rfl rfl), (gb_w9 77 rfl rfl), _, _, rfl⟩), (fun h => absurd h (by decide +kernel)), (fun h => absurd h (by decide +kernel))⟩
theorem gb_T438 : gb_Tb 438 := ⟨(gb_w6 189 rfl rfl), (gb_w1 1 rfl rfl), gb_nmX11, gb_de0, (by decide +kernel), (fun _ => ⟨(gb_w6 187 rfl rfl), (gb_w6 188 rfl rfl), _, _, rfl⟩), (fun h => absurd h (by decide +kernel)), (fun h => absurd h (by decide +kernel))⟩
theorem gb_T221 : gb_Tb 221 := ⟨(gb_w9 87 rfl rfl), (gb_w1 13 rfl rfl), gb_nmX12, gb_de30, (by decide +kernel), (fun _ => ⟨(gb_w9 86 rfl rfl), (gb_w 107 rfl rfl), _, _, rfl⟩), (fun h => absurd h (by decide +kernel)), (fun h => absurd h (by decide +kernel))⟩
theorem gb_T222 : gb_Tb 222 := ⟨(gb_w9 83 rfl rfl), (gb_w1 13 rfl rfl), gb_nmX12, gb_de0, (by decide +kernel), (fun _ => ⟨(gb_w9 81 rfl rfl), (gb_w9 82 rfl rfl), _, _, rfl⟩), (fun h => absurd h (by decide +kernel)), (fun h => absurd h (by decide +kernel))⟩
theorem gb_T439 : gb_Tb 439 := ⟨(gb_w6 198 rfl rfl), (gb_w1 1 rfl rfl), gb_nmX11, gb_de0, (by decide +kernel), (fun _ => ⟨(gb_w6 196 rfl rfl), (gb_w6 197 rfl rfl), _, _, rfl⟩), (fun h => absurd h (by decide +kernel)), (fun h => absurd h (by decide +kernel))⟩
theorem gb_T223 : gb_Tb 223 := ⟨(gb_w9 91 rfl rfl), (gb_w1 13 rfl rfl), gb_nmX12, gb_de0, (by decide +kernel), (fun _ => ⟨(gb_w9 89 rfl rfl), (gb_w9 90 rfl rfl), _, _, rfl⟩), (fun h => absurd h (by decide +kernel)), (fun h => absurd h (by decide +kernel))⟩
theorem gb_T224 : gb_Tb 224 := ⟨(gb_w6 210 rfl rfl), (gb_w1 4 rfl rfl), gb_nmX3, gb_de32, (by decide +kernel), (fun _ => ⟨(gb_w6 208 rfl rfl), (gb_w6 209 rfl rfl), _, _, rfl⟩), (fun h => absurd h (by decide +kernel)), (fun h => absurd h (by decide +kernel))⟩
theorem gb_T440 : gb_Tb 440 := ⟨(gb_w6 206 rfl rfl), (gb_w1 1 rfl rfl), gb_nmX11, gb_de10, (by decide +kernel), (fun _ => ⟨(gb_w6 204 rfl rfl), (gb_w6 205 rfl rfl), _, _, rfl⟩), (fun h => absurd h (by decide +kernel)), (fun h => absurd h (by decide +kernel))⟩
theorem gb_T225 : gb_Tb 225 := ⟨(gb_w9 99 rfl rfl), (gb_w1 13 rfl rfl), gb_nmX12, gb_de0, (by decide +kernel), (fun _ => ⟨(gb_w9 98 rfl rfl), (gb_w 108 rfl rfl), _, _, rfl⟩), (fun h => absurd h (by decide +kernel)), (fun h => absurd h (by decide +kernel))⟩
theorem gb_T226 : gb_Tb 226 := ⟨(gb_w9 95 rfl rfl), (gb_w1 13 rfl rfl), gb_nmX12, gb_de10, (by decide +kernel), (fun _ => ⟨(gb_w9 93 rfl rfl), (gb_w9 94 rfl rfl), _, _, rfl⟩), (fun h => absurd h (by decide +kernel)), (fun h => absurd h (by decide +kernel))⟩
theorem gb_T441 : gb_Tb 441 := ⟨(gb_w6 218 rfl rfl), (gb_w1 1 rfl rfl), gb_nmX11, gb_de10, (by decide +kernel), (fun _ => ⟨(gb_w6 216 rfl rfl), (gb_w6 217 rfl rfl), _, _, rfl⟩), (fun h => absurd h (by decide +kernel)), (fun h => absurd h (by decide +kernel))⟩
theorem gb_T227 : gb_Tb 227 := ⟨(gb_w9 103 rfl rfl), (gb_w1 13 rfl rfl), gb_nmX12, gb_de10, (by decide +kernel), (fun _ => ⟨(gb_w9 101 rfl rfl), (gb_w9 102 rfl rfl), _, _, rfl⟩), (fun h => absurd h (by decide +kernel)), (fun h => absurd h (by decide +kernel))⟩
theorem gb_T228 : gb_Tb 228 := ⟨(gb_w4 218 rfl rfl), (gb_w1 19 rfl rfl), gb_nmJ9, gb_de10, (by decide +kernel), (fun h => absurd h (by decide +kernel)), (fun h => absurd h (by decide +kernel)), (fun h => absurd h (by decide +kernel))⟩
theorem gb_T229 : gb_Tb 229 := ⟨(gb_w4 212 rfl rfl), (gb_w1 1 rfl rfl), gb_nmX11, gb_de3, (by decide +kernel), (fun _ => ⟨(gb_w4 210 rfl rfl), (gb_w4 211 rfl rfl), _, _, rfl⟩), (fun h => absurd h (by decide +kernel)), (fun h => absurd h (by decide +kernel))⟩
theorem gb_T230 : gb_Tb 230 := ⟨(gb_w9 107 rfl rfl), (gb_w1 13 rfl rfl), gb_nmX12, gb_de3, (by decide +kernel), (fun _ => ⟨(gb_w9 105 rfl rfl), (gb_w9 106 rfl rfl), _, _, rfl⟩), (fun h => absurd h (by decide +kernel)), (fun h => absurd h (by decide +kernel))⟩
theorem gb_T231 : gb_Tb 231 := ⟨(gb_w4 226 rfl rfl), (gb_w1 4 rfl rfl), gb_nmX3, gb_de3, (by decide +kernel), (fun _ => ⟨(gb_w4 224 rfl rfl), (gb_w4 225 rfl rfl), _, _, rfl⟩), (fun h => absurd h (by decide +kernel)), (fun h => absurd h (by decide +kernel))⟩
theorem gb_T232 : gb_Tb 232 := ⟨(gb_w4 222 rfl rfl), (gb_w1 1 rfl rfl), gb_nmX11, gb_de33, (by decide +kernel), (fun _ => ⟨(gb_w4 220 rfl rfl), (gb_w4 221 rfl rfl), _, _, rfl⟩), (fun h => absurd h (by decide +kernel)), (fun h => absurd h (by decide +kernel))⟩
theorem gb_T233 : gb_Tb 233 := ⟨(gb_w9 111 rfl rfl), (gb_w1 13 rfl rfl), gb_nmX12, gb_de33, (by decide +kernel), (fun _ => ⟨(gb_w9 109 rfl rfl), (gb_w9 110 rfl rfl), _, _, rfl⟩), (fun h => absurd h (by decide +kernel)), (fun h => absurd h (by decide +kernel))⟩
theorem gb_T234 : gb_Tb 234 := ⟨(gb_w6 233 rfl rfl), (gb_w1 12 rfl rfl), gb_nmX5, gb_de5, (by decide +kernel), (fun _ => ⟨(gb_w6 232 rfl rfl), (gb_w 37 rfl rfl), _, _, rfl⟩), (fun h => absurd h (by decide +kernel)), (fun h => absurd h (by decide +kernel))⟩
theorem gb_T235 : gb_Tb 235 := ⟨(gb_w6 239 rfl rfl), (gb_w1 12 rfl rfl), gb_nmX5, gb_de5, (by decide +kernel), (fun _ => ⟨(gb_w6 238 rfl rfl), (gb_w 38 rfl rfl), _, _, rfl⟩), (fun h => absurd h (by decide +kernel)), (fun h => absurd h (by decide +kernel))⟩
theorem gb_T236 : gb_Tb 236 := ⟨(gb_w6 229 rfl rfl), (gb_w1 12 rfl rfl), gb_nmX5, gb_de5, (by decide +kernel), (fun _ => ⟨(gb_w6 227 rfl rfl), (gb_w6 228 rfl rfl), _, _, rfl⟩), (fun h => absurd h (by decide +kernel)), (fun h => absurd h (by decide +kernel))⟩
theorem gb_T442 : gb_Tb 442 := ⟨(gb_w6 225 rfl rfl), (gb_w1 1 rfl rfl), gb_nmX11, gb_de0, (by decide +kernel), (fun _ => ⟨(gb_w6 223 rfl rfl), (gb_w6 224 rfl rfl), _, _, rfl⟩), (fun h => absurd h (by decide +kernel)), (fun h => absurd h (by decide +kernel))⟩
theorem gb_T237 : gb_Tb 237 := ⟨(gb_w9 123 rfl rfl), (gb_w1 13 rfl rfl), gb_nmX12, gb_de5, (by decide +kernel), (fun _ => ⟨(gb_w9 122 rfl rfl), (gb_w 110 rfl rfl), _, _, rfl⟩), (fun h => absurd h (by decide +kernel)), (fun h => absurd h (by decide +kernel))⟩
theorem gb_T238 : gb_Tb 238 := ⟨(gb_w9 119 rfl rfl), (gb_w1 13 rfl rfl), gb_nmX12, gb_de5, (by decide +kernel), (fun _ => ⟨(gb_w9 118 rfl rfl), (gb_w 109 rfl rfl), _, _, rfl⟩), (fun h => absurd h (by decide +kernel)), (fun h => absurd h (by decide +kernel))⟩
theorem gb_T239 : gb_Tb 239 := ⟨(gb_w9 115 rfl rfl), (gb_w1 13 rfl rfl), gb_nmX12, gb_de0, (by decide +kernel), (fun _ => ⟨(gb_w9 113 rfl rfl), (gb_w9 114 rfl rfl), _, _, rfl⟩), (fun h => absurd h (by decide +kernel)), (fun h => absurd h (by decide +kernel))⟩
theorem gb_T443 : gb_Tb 443 := ⟨(gb_w7 9 rfl rfl), (gb_w1 1 rfl rfl), gb_nmX11, gb_de0, (by decide +kernel), (fun _ => ⟨(gb_w7 7 rfl rfl), (gb_w7 8 rfl rfl), _, _, rfl⟩), (fun h => absurd h (by decide +kernel)), (fun h => absurd h (by decide +kernel))⟩
theorem gb_T240 : gb_Tb 240 := ⟨(gb_w9 127 rfl rfl), (gb_w1 13 rfl rfl), gb_nmX12, gb_de0, (by decide +kernel), (fun _ => ⟨(gb_w9 125 rfl rfl), (gb_w9 126 rfl rfl), _, _, rfl⟩), (fun h => absurd h (by decide +kernel)), (fun h => absurd h (by decide +kernel))⟩
theorem gb_T241 : gb_Tb 241 := ⟨(gb_w7 22 rfl rfl), (gb_w1 8 rfl rfl), gb_nmX1, gb_de8, (by decide +kernel), (fun _ => ⟨(gb_w7 20 rfl rfl), (gb_w7 21 rfl rfl), _, _, rfl⟩), (fun h => absurd h (by decide +kernel)), (fun h => absurd h (by decide +kernel))⟩
theorem gb_T444 : gb_Tb 444 := ⟨(gb_w7 17 rfl rfl), (gb_w1 1 rfl rfl), gb_nmX11, gb_de3, (by decide +kernel), (fun _ => ⟨(gb_w7 15 rfl rfl), (gb_w7 16 rfl rfl), _, _, rfl⟩), (fun h => absurd h (by decide +kernel)), (fun h => absurd h (by decide +kernel))⟩
theorem gb_T242 : gb_Tb 242 := ⟨(gb_w7 106 rfl rfl), (gb_w1 13 rfl rfl), gb_nmX12, gb_de3, (by decide +kernel), (fun _ => ⟨(gb_w7 104 rfl rfl), (gb_w7 105 rfl rfl), _, _, rfl⟩), (fun h => absurd h (by decide +kernel)), (fun h => absurd h (by decide +kernel))⟩
theorem gb_T243 : gb_Tb 243 := ⟨(gb_w5 2 rfl rfl), (gb_w1 1 rfl rfl), gb_nmX11, gb_de3, (by decide +kernel), (fun _ => ⟨(gb_w5 0 rfl rfl), (gb_w5 1 rfl rfl), _, _, rfl⟩), (fun h => absurd h (by decide +kernel)), (fun h => absurd h (by decide +kernel))⟩
theorem gb_T244 : gb_Tb 244 := ⟨(gb_w7 114 rfl rfl), (gb_w1 13 rfl rfl), gb_nmX12, gb_de3, (by decide +kernel), (fun _ => ⟨(gb_w7 112 rfl rfl), (gb_w7 113 rfl rfl), _, _, rfl⟩), (fun h => absurd h (by decide +kernel)), (fun h => absurd h (by decide +kernel))⟩
theorem gb_T245 : gb_Tb 245 := ⟨(gb_w7 102 rfl rfl), (gb_w1 13 rfl rfl), gb_nmX12, gb_de3, (by decide +kernel), (fun _ => ⟨(gb_w7 100 rfl rfl), (gb_w7 101 rfl rfl), _, _, rfl⟩), (fun h => absurd h (by decide +kernel)), (fun h => absurd h (by decide +kernel))⟩
theorem gb_T246 : gb_Tb 246 := ⟨(gb_w1 149 rfl rfl), (gb_w1 2 rfl rfl), gb_nmX7, gb_de8, (by decide +kernel), (fun _ => ⟨(gb_w1 147 rfl rfl), (gb_w1 148 rfl rfl), _, _, rfl⟩), (fun h => absurd h (by decide +kernel)), (fun h => absurd h (by decide +kernel))⟩
def gb_Kl (C : String) (T : u_T) (N : Nat) : Prop := ∃ ty : Nat → FieldType, (∀ w ∈ u_ws C T N, w ∈ gb_good) ∧ (∀ j, j < N → parseFieldDescriptor (T j).2.2.1 = some (ty j)) ∧ (∀ a, a < N → ∀ b, b < N → a ≠ b → (T a).2.1 ≠ (T b).2.1) ∧ ∀ k, k < N → (T k).2.2.2 = false → ty k = .int
theorem gb_kl0 : gb_Kl RX0 TX0 7 := ⟨tyX0, (List.forall_mem_cons.mpr ⟨(gb_w2 39 rfl rfl), List.forall_mem_cons.mpr ⟨(gb_w2 41 rfl rfl), List.forall_mem_cons.mpr ⟨(gb_w2 43 rfl rfl), List.forall_mem_cons.mpr ⟨(gb_w2 45 rfl rfl), List.forall_mem_cons.mpr ⟨(gb_w2 47 rfl rfl), List.forall_mem_cons.mpr ⟨(gb_w2 49 rfl rfl), List.forall_mem_cons.mpr ⟨(gb_w2 51 rfl rfl), fun _ h => nomatch h⟩⟩⟩⟩⟩⟩⟩), tyX0_ok, nmX0, by decide +kernel⟩
theorem gb_kl1 : gb_Kl RX1 TX1 4 := ⟨tyX1, (List.forall_mem_cons.mpr ⟨(gb_w2 86 rfl rfl), List.forall_mem_cons.mpr ⟨(gb_w2 88 rfl rfl), List.forall_mem_cons.mpr ⟨(gb_w2 90 rfl rfl), List.forall_mem_cons.mpr ⟨(gb_w2 92 rfl rfl), fun _ h => nomatch h⟩⟩⟩⟩), tyX1_ok, nmX1, by decide +kernel⟩
theorem gb_kl2 : gb_Kl RX2 TX2 4 := ⟨tyX2, (List.forall_mem_cons.mpr ⟨(gb_w2 64 rfl rfl), List.forall_mem_cons.mpr ⟨(gb_w2 66 rfl rfl), List.forall_mem_cons.mpr ⟨(gb_w2 68 rfl rfl), List.forall_mem_cons.mpr ⟨(gb_w2 70 rfl rfl), fun _ h => nomatch h⟩⟩⟩⟩), tyX2_ok, nmX2, by decide +kernel⟩
theorem gb_kl3 : gb_Kl RX3 TX3 6 := ⟨tyX3, (List.forall_mem_cons.mpr ⟨(gb_w1 207 rfl rfl), List.forall_mem_cons.mpr ⟨(gb_w1 209 rfl rfl), List.forall_mem_cons.mpr ⟨(gb_w1 211 rfl rfl), List.forall_mem_cons.mpr ⟨(gb_w1 213 rfl rfl), List.forall_mem_cons.mpr ⟨(gb_w1 215 rfl rfl), List.forall_mem_cons.mpr ⟨(gb_w1 217 rfl rfl), fun _ h => nomatch h⟩⟩⟩⟩⟩⟩), tyX3_ok, nmX3, by decide +kernel⟩
theorem gb_kl4 : gb_Kl RX4 TX4 2 := ⟨tyX4, (List.forall_mem_cons.mpr ⟨(gb_w2 16 rfl rfl), List.forall_mem_cons.mpr ⟨(gb_w2 18 rfl rfl), fun _ h => nomatch h⟩⟩), tyX4_ok, nmX4, by decide +kernel⟩
theorem gb_kl5 : gb_Kl RX5 TX5 4 := ⟨tyX5, (List.forall_mem_cons.mpr ⟨(gb_w2 195 rfl rfl), List.forall_mem_cons.mpr ⟨(gb_w2 197 rfl rfl), List.forall_mem_cons.mpr ⟨(gb_w2 199 rfl rfl), List.forall_mem_cons.mpr ⟨(gb_w2 201 rfl rfl), fun _ h => nomatch h⟩⟩⟩⟩), tyX5_ok, nmX5, by decide +kernel⟩
theorem gb_kl6 : gb_Kl RX6 TX6 1 := ⟨tyX6, (List.forall_mem_cons.mpr ⟨(gb_w1 47 rfl rfl), fun _ h => nomatch h⟩), tyX6_ok, nmX6, by decide +kernel⟩
theorem gb_kl7 : gb_Kl RX7 TX7 16 := ⟨tyX7, (List.forall_mem_cons.mpr ⟨(gb_w1 113 rfl rfl), List.forall_mem_cons.mpr ⟨(gb_w1 115 rfl rfl), List.forall_mem_cons.mpr ⟨(gb_w1 117 rfl rfl), List.forall_mem_cons.mpr ⟨(gb_w1 119 rfl rfl), List.forall_mem_cons.mpr ⟨(gb_w1 121 rfl rfl), List.forall_mem_cons.mpr ⟨(gb_w1 123 rfl rfl), List.forall_mem_cons.mpr ⟨(gb_w1 125 rfl rfl), List.forall_mem_cons.mpr ⟨(gb_w1 127 rfl rfl), List.forall_mem_cons.mpr ⟨(gb_w1 129 rfl rfl), List.forall_mem_cons.mpr ⟨(gb_w1 131 rfl rfl), List.forall_mem_cons.mpr ⟨(gb_w1 133 rfl rfl), List.forall_mem_cons.mpr ⟨(gb_w1 135 rfl rfl), List.forall_mem_cons.mpr ⟨(gb_w1 137 rfl rfl), List.forall_mem_cons.mpr ⟨(gb_w1 139 rfl rfl), List.forall_mem_cons.mpr ⟨(gb_w1 141 rfl rfl), List.forall_mem_cons.mpr ⟨(gb_w1 143 rfl rfl), fun _ h => nomatch h⟩⟩⟩⟩⟩⟩⟩⟩⟩⟩⟩⟩⟩⟩⟩⟩), tyX7_ok, nmX7, by decide +kernel⟩
theorem gb_kl8 : gb_Kl RX8 TX8 2 := ⟨tyX8, (List.forall_mem_cons.mpr ⟨(gb_w2 150 rfl rfl), List.forall_mem_cons.mpr ⟨(gb_w2 152 rfl rfl), fun _ h => nomatch h⟩⟩), tyX8_ok, nmX8, by decide +kernel⟩
theorem gb_kl9 : gb_Kl RX9 TX9 5 := ⟨tyX9, (List.forall_mem_cons.mpr ⟨(gb_w2 170 rfl rfl), List.forall_mem_cons.mpr ⟨(gb_w2 172 rfl rfl), List.forall_mem_cons.mpr ⟨(gb_w2 174 rfl rfl), List.forall_mem_cons.mpr ⟨(gb_w2 176 rfl rfl), List.forall_mem_cons.mpr ⟨(gb_w2 178 rfl rfl), fun _ h => nomatch h⟩⟩⟩⟩⟩), tyX9_ok, nmX9, by decide +kernel⟩
theorem gb_kl10 : gb_Kl RX10 TX10 8 := ⟨tyX10, (List.forall_mem_cons.mpr ⟨(gb_w2 122 rfl rfl), List.forall_mem_cons.mpr ⟨(gb_w2 124 rfl rfl), List.forall_mem_cons.mpr ⟨(gb_w2 126 rfl rfl), List.forall_mem_cons.mpr ⟨(gb_w2 128 rfl rfl), List.forall_mem_cons.mpr ⟨(gb_w2 130 rfl rfl), List.forall_mem_cons.mpr ⟨(gb_w2 132 rfl rfl), List.forall_mem_cons.mpr ⟨(gb_w2 134 rfl rfl), List.forall_mem_cons.mpr ⟨(gb_w2 136 rfl rfl), fun _ h => nomatch h⟩⟩⟩⟩⟩⟩⟩⟩), tyX10_ok, nmX10, by decide +kernel⟩
theorem gb_kl11 : gb_Kl RX11 TX11 10 := ⟨tyX11, (List.forall_mem_cons.mpr ⟨(gb_w2 214 rfl rfl), List.forall_mem_cons.mpr ⟨(gb_w2 216 rfl rfl), List.forall_mem_cons.mpr ⟨(gb_w2 218 rfl rfl), List.forall_mem_cons.mpr ⟨(gb_w2 220 rfl rfl), List.forall_mem_cons.mpr ⟨(gb_w2 222 rfl rfl), List.forall_mem_cons.mpr ⟨(gb_w2 224 rfl rfl), List.forall_mem_cons.mpr ⟨(gb_w2 226 rfl rfl), List.forall_mem_cons.mpr ⟨(gb_w2 228 rfl rfl), List.forall_mem_cons.mpr ⟨(gb_w2 230 rfl rfl), List.forall_mem_cons.mpr ⟨(gb_w2 232 rfl rfl), fun _ h => nomatch h⟩⟩⟩⟩⟩⟩⟩⟩⟩⟩), tyX11_ok, nmX11, by decide +kernel⟩
theorem gb_kl12 : gb_Kl RX12 TX12 20 := ⟨tyX12, (List.forall_mem_cons.mpr ⟨(gb_w7 58 rfl rfl), List.forall_mem_cons.mpr ⟨(gb_w7 60 rfl rfl), List.forall_mem_cons.mpr ⟨(gb_w7 62 rfl rfl), List.forall_mem_cons.mpr ⟨(gb_w7 64 rfl rfl), List.forall_mem_cons.mpr ⟨(gb_w7 66 rfl rfl), List.forall_mem_cons.mpr ⟨(gb_w7 68 rfl rfl), List.forall_mem_cons.mpr ⟨(gb_w7 70 rfl rfl), List.forall_mem_cons.mpr ⟨(gb_w7 72 rfl rfl), List.forall_mem_cons.mpr ⟨(gb_w7 74 rfl rfl), List.forall_mem_cons.mpr ⟨(gb_w7 76 rfl rfl), List.forall_mem_cons.mpr ⟨(gb_w7 78 rfl rfl), List.forall_mem_cons.mpr ⟨(gb_w7 80 rfl rfl), List.forall_mem_cons.mpr ⟨(gb_w7 82 rfl rfl), List.forall_mem_cons.mpr ⟨(gb_w7 84 rfl rfl), List.forall_mem_cons.mpr ⟨(gb_w7 86 rfl rfl), List.forall_mem_cons.mpr ⟨(gb_w7 88 rfl rfl), List.forall_mem_cons.mpr ⟨(gb_w7 90 rfl rfl), List.forall_mem_cons.mpr ⟨(gb_w7 92 rfl rfl), List.forall_mem_cons.mpr ⟨(gb_w7 94 rfl rfl), List.forall_mem_cons.mpr ⟨(gb_w7 96 rfl rfl), fun _ h => nomatch h⟩⟩⟩⟩⟩⟩⟩⟩⟩⟩⟩⟩⟩⟩⟩⟩⟩⟩⟩⟩), tyX12_ok, nmX12, by decide +kernel⟩
theorem gb_fo_of {own C : String} {T : u_T} {N ci idx k : Nat} (hk : gb_Kl C T N) (h1 : vwCl[ci]? = some (C, T, N)) (h2 : k < N) (h3 : Cond.fieldLink own idx (T k).1 (T k).2.1 (T k).2.2.1 ∈ gb_good) : gb_Fo own (idx, ci, k) := by
  obtain ⟨ty, k1, k2, k3, k4⟩ := hk
  exact ⟨C, T, N, ty, h1, h2, h3, k1, k2, k3, k4 _ h2⟩
def gb_Ln (own : String) (lk lkn : List (Nat × Nat)) : Prop := (∀ q ∈ lk, Cond.methodLink own q.1 (gb_y q.2) ∈ gb_good) ∧ ∀ q ∈ lkn, gb_ki q.2 = 1 ∧ ∃ host, (own, q.1, gb_y q.2, host) ∈ gb_nest
def gb_flL : List (Nat × Nat × Nat) := []
def gb_slL : List (Nat × Nat) := []
def gb_nlL : List (Nat × Int32) := []
def gb_llL : List (Nat × Int32) := []
def gb_tlL : List (Nat × Nat × Nat) := []
theorem gb_oL : gb_Own RL gb_flL gb_slL gb_nlL gb_llL gb_tlL := ⟨(fun _ h => nomatch h), (fun _ h => nomatch h), (fun _ h => nomatch h), (fun _ h => nomatch h), ((fun _ h => nomatch h))⟩
def gb_lkL : List (Nat × Nat) := [(153, 54), (157, 124), (161, 169), (165, 171), (183, 180), (199, 188), (278, 229), (282, 232), (297, 243), (140, 445), (7, 400), (149, 446), (15, 401), (169, 447), (21, 404), (173, 448), (27, 407), (177, 449), (31, 408), (180, 450), (34, 409), (187, 451), (37, 410), (190, 452), (40, 412), (193, 453), (43, 414), (196, 454), (46, 415), (203, 455), (49, 416), (206, 456), (52, 417), (209, 457), (55, 418), (212, 458), (58, 419), (215, 459), (61, 420), (218, 460), (64, 421), (221, 461), (67, 422), (224, 462), (70, 423), (227, 463), (75, 424), (230, 464), (78, 425), (233, 465), (81, 426), (236, 466), (84, 427), (239, 467), (87, 428), (242, 468), (90, 429), (245, 469), (93, 430), (248, 470), (96, 431), (251, 471), (99, 433), (254, 472), (102, 434), (257, 473), (105, 435), (260, 474), (108, 436), (263, 475), (111, 437), (266, 476), (114, 438), (269, 477), (117, 439), (272, 478), (120, 440), (275, 479), (123, 441), (287, 480), (126, 442), (290, 481), (129, 443), (293, 482), (132, 444), (146, 245), (296, 242), (300, 244), (172, 175), (176, 176), (179, 178), (182, 179), (186, 181), (189, 182), (192, 183), (195, 184), (198, 185), (202, 191), (145, 9), (152, 11), (156, 75), (164, 170), (168, 172), (160, 168), (205, 192), (208, 193), (211, 194), (214, 195), (217, 196), (220, 197), (223, 198), (226, 199), (229, 201), (232, 202), (235, 203), (238, 209), (241, 210), (244, 212), (247, 213), (250, 214), (253, 216), (256, 217), (259, 218), (262, 219), (265, 220), (268, 222), (271, 223), (274, 226), (277, 227), (281, 230), (286, 233), (289, 239), (292, 240)]
def gb_lnL : List (Nat × Nat) := []
set_option maxRecDepth 100000 in
theorem gb_nL : gb_Ln RL gb_lkL gb_lnL := ⟨(List.forall_mem_cons.mpr ⟨(gb_w2 235 rfl rfl), List.forall_mem_cons.mpr ⟨(gb_w3 192 rfl rfl), List.forall_mem_cons.mpr ⟨(gb_w4 183 rfl rfl), List.forall_mem_cons.mpr ⟨(gb_w4 187 rfl rfl), List.forall_mem_cons.mpr ⟨(gb_w4 191 rfl rfl), List.forall_mem_cons.mpr ⟨(gb_w4 196 rfl rfl), List.forall_mem_cons.mpr ⟨(gb_w4 209 rfl rfl), List.forall_mem_cons.mpr ⟨(gb_w4 219 rfl rfl), List.forall_mem_cons.mpr ⟨(gb_w4 239 rfl rfl), List.forall_mem_cons.mpr ⟨(gb_w5 3 rfl rfl), List.forall_mem_cons.mpr ⟨(gb_w5 7 rfl rfl), List.forall_mem_cons.mpr ⟨(gb_w5 84 rfl rfl), List.forall_mem_cons.mpr ⟨(gb_w5 88 rfl rfl), List.forall_mem_cons.mpr ⟨(gb_w5 108 rfl rfl), List.forall_mem_cons.mpr ⟨(gb_w5 112 rfl rfl), List.forall_mem_cons.mpr ⟨(gb_w5 144 rfl rfl), List.forall_mem_cons.mpr ⟨(gb_w5 147 rfl rfl), List.forall_mem_cons.mpr ⟨(gb_w5 163 rfl rfl), List.forall_mem_cons.mpr ⟨(gb_w5 166 rfl rfl), List.forall_mem_cons.mpr ⟨(gb_w5 175 rfl rfl), List.forall_mem_cons.mpr ⟨(gb_w5 178 rfl rfl), List.forall_mem_cons.mpr ⟨(gb_w5 183 rfl rfl), List.forall_mem_cons.mpr ⟨(gb_w5 186 rfl rfl), List.forall_mem_cons.mpr ⟨(gb_w5 191 rfl rfl), List.forall_mem_cons.mpr ⟨(gb_w5 194 rfl rfl), List.forall_mem_cons.mpr ⟨(gb_w5 205 rfl rfl), List.forall_mem_cons.mpr ⟨(gb_w5 208 rfl rfl), List.forall_mem_cons.mpr ⟨(gb_w5 219 rfl rfl), List.forall_mem_cons.mpr ⟨(gb_w5 222 rfl rfl), List.forall_mem_cons.mpr ⟨(gb_w5 227 rfl rfl), List.forall_mem_cons.mpr ⟨(gb_w5 230 rfl rfl), List.forall_mem_cons.mpr ⟨(gb_w5 235 rfl rfl), List.forall_mem_cons.mpr ⟨(gb_w5 238 rfl rfl), List.forall_mem_cons.mpr ⟨(gb_w6 3 rfl rfl), List.forall_mem_cons.mpr ⟨(gb_w6 6 rfl rfl), List.forall_mem_cons.mpr ⟨(gb_w6 11 rfl rfl), List.forall_mem_cons.mpr ⟨(gb_w6 14 rfl rfl), List.forall_mem_cons.mpr ⟨(gb_w6 19 rfl rfl), List.forall_mem_cons.mpr ⟨(gb_w6 22 rfl rfl), List.forall_mem_cons.mpr ⟨(gb_w6 27 rfl rfl), List.forall_mem_cons.mpr ⟨(gb_w6 30 rfl rfl), List.forall_mem_cons.mpr ⟨(gb_w6 34 rfl rfl), List.forall_mem_cons.mpr ⟨(gb_w6 37 rfl rfl), List.forall_mem_cons.mpr ⟨(gb_w6 42 rfl rfl), List.forall_mem_cons.mpr ⟨(gb_w6 46 rfl rfl), List.forall_mem_cons.mpr ⟨(gb_w6 66 rfl rfl), List.forall_mem_cons.mpr ⟨(gb_w6 69 rfl rfl), List.forall_mem_cons.mpr ⟨(gb_w6 73 rfl rfl), List.forall_mem_cons.mpr ⟨(gb_w6 76 rfl rfl), List.forall_mem_cons.mpr ⟨(gb_w6 81 rfl rfl), List.forall_mem_cons.mpr ⟨(gb_w6 84 rfl rfl), List.forall_mem_cons.mpr ⟨(gb_w6 89 rfl rfl), List.forall_mem_cons.mpr ⟨(gb_w6 92 rfl rfl), List.forall_mem_cons.mpr ⟨(gb_w6 99 rfl rfl), List.forall_mem_cons.mpr ⟨(gb_w6 102 rfl rfl), List.forall_mem_cons.mpr ⟨(gb_w6 109 rfl rfl), List.forall_mem_cons.mpr ⟨(gb_w6 112 rfl rfl), List.forall_mem_cons.mpr ⟨(gb_w6 122 rfl rfl), List.forall_mem_cons.mpr ⟨(gb_w6 125 rfl rfl), List.forall_mem_cons.mpr ⟨(gb_w6 130 rfl rfl), List.forall_mem_cons.mpr ⟨(gb_w6 133 rfl rfl), List.forall_mem_cons.mpr ⟨(gb_w6 140 rfl rfl), List.forall_mem_cons.mpr ⟨(gb_w6 143 rfl rfl), List.forall_mem_cons.mpr ⟨(gb_w6 153 rfl rfl), List.forall_mem_cons.mpr ⟨(gb_w6 156 rfl rfl), List.forall_mem_cons.mpr ⟨(gb_w6 160 rfl rfl), List.forall_mem_cons.mpr ⟨(gb_w6 163 rfl rfl), List.forall_mem_cons.mpr ⟨(gb_w6 167 rfl rfl), List.forall_mem_cons.mpr ⟨(gb_w6 170 rfl rfl), List.forall_mem_cons.mpr ⟨(gb_w6 175 rfl rfl), List.forall_mem_cons.mpr ⟨(gb_w6 178 rfl rfl), List.forall_mem_cons.mpr ⟨(gb_w6 183 rfl rfl), List.forall_mem_cons.mpr ⟨(gb_w6 186 rfl rfl), List.forall_mem_cons.mpr ⟨(gb_w6 192 rfl rfl), List.forall_mem_cons.mpr ⟨(gb_w6 195 rfl rfl), List.forall_mem_cons.mpr ⟨(gb_w6 200 rfl rfl), List.forall_mem_cons.mpr ⟨(gb_w6 203 rfl rfl), List.forall_mem_cons.mpr ⟨(gb_w6 212 rfl rfl), List.forall_mem_cons.mpr ⟨(gb_w6 215 rfl rfl), List.forall_mem_cons.mpr ⟨(gb_w6 219 rfl rfl), List.forall_mem_cons.mpr ⟨(gb_w6 222 rfl rfl), List.forall_mem_cons.mpr ⟨(gb_w7 3 rfl rfl), List.forall_mem_cons.mpr ⟨(gb_w7 6 rfl rfl), List.forall_mem_cons.mpr ⟨(gb_w7 11 rfl rfl), List.forall_mem_cons.mpr ⟨(gb_w7 14 rfl rfl), List.forall_mem_cons.mpr ⟨(gb_w7 99 rfl rfl), List.forall_mem_cons.mpr ⟨(gb_w7 103 rfl rfl), List.forall_mem_cons.mpr ⟨(gb_w7 111 rfl rfl), List.forall_mem_cons.mpr ⟨(gb_w7 115 rfl rfl), List.forall_mem_cons.mpr ⟨(gb_w7 157 rfl rfl), List.forall_mem_cons.mpr ⟨(gb_w7 212 rfl rfl), List.forall_mem_cons.mpr ⟨(gb_w7 224 rfl rfl), List.forall_mem_cons.mpr ⟨(gb_w8 4 rfl rfl), List.forall_mem_cons.mpr ⟨(gb_w8 12 rfl rfl), List.forall_mem_cons.mpr ⟨(gb_w8 28 rfl rfl), List.forall_mem_cons.mpr ⟨(gb_w8 48 rfl rfl), List.forall_mem_cons.mpr ⟨(gb_w8 60 rfl rfl), List.forall_mem_cons.mpr ⟨(gb_w8 64 rfl rfl), List.forall_mem_cons.mpr ⟨(gb_w8 76 rfl rfl), List.forall_mem_cons.mpr ⟨(gb_w8 84 rfl rfl), List.forall_mem_cons.mpr ⟨(gb_w8 88 rfl rfl), List.forall_mem_cons.mpr ⟨(gb_w8 175 rfl rfl), List.forall_mem_cons.mpr ⟨(gb_w8 179 rfl rfl), List.forall_mem_cons.mpr ⟨(gb_w8 183 rfl rfl), List.forall_mem_cons.mpr ⟨(gb_w8 216 rfl rfl), List.forall_mem_cons.mpr ⟨(gb_w8 220 rfl rfl), List.forall_mem_cons.mpr ⟨(gb_w8 224 rfl rfl), List.forall_mem_cons.mpr ⟨(gb_w8 228 rfl rfl), List.forall_mem_cons.mpr ⟨(gb_w8 232 rfl rfl), List.forall_mem_cons.mpr ⟨(gb_w8 236 rfl rfl), List.forall_mem_cons.mpr ⟨(gb_w9 0 rfl rfl), List.forall_mem_cons.mpr ⟨(gb_w9 4 rfl rfl), List.forall_mem_cons.mpr ⟨(gb_w9 8 rfl rfl), List.forall_mem_cons.mpr ⟨(gb_w9 16 rfl rfl), List.forall_mem_cons.mpr ⟨(gb_w9 20 rfl rfl), List.forall_mem_cons.mpr ⟨(gb_w9 24 rfl rfl), List.forall_mem_cons.mpr ⟨(gb_w9 37 rfl rfl), List.forall_mem_cons.mpr ⟨(gb_w9 41 rfl rfl), List.forall_mem_cons.mpr ⟨(gb_w9 46 rfl rfl), List.forall_mem_cons.mpr ⟨(gb_w9 50 rfl rfl), List.forall_mem_cons.mpr ⟨(gb_w9 55 rfl rfl), List.forall_mem_cons.mpr ⟨(gb_w9 63 rfl rfl), List.forall_mem_cons.mpr ⟨(gb_w9 67 rfl rfl), List.forall_mem_cons.mpr ⟨(gb_w9 71 rfl rfl), List.forall_mem_cons.mpr ⟨(gb_w9 75 rfl rfl), List.forall_mem_cons.mpr ⟨(gb_w9 80 rfl rfl), List.forall_mem_cons.mpr ⟨(gb_w9 88 rfl rfl), List.forall_mem_cons.mpr ⟨(gb_w9 92 rfl rfl), List.forall_mem_cons.mpr ⟨(gb_w9 100 rfl rfl), List.forall_mem_cons.mpr ⟨(gb_w9 104 rfl rfl), List.forall_mem_cons.mpr ⟨(gb_w9 108 rfl rfl), List.forall_mem_cons.mpr ⟨(gb_w9 112 rfl rfl), List.forall_mem_cons.mpr ⟨(gb_w9 124 rfl rfl), fun _ h => nomatch h⟩⟩⟩⟩⟩⟩⟩⟩⟩⟩⟩⟩⟩⟩⟩⟩⟩⟩⟩⟩⟩⟩⟩⟩⟩⟩⟩⟩⟩⟩⟩⟩⟩⟩⟩⟩⟩⟩⟩⟩⟩⟩⟩⟩⟩⟩⟩⟩⟩⟩⟩⟩⟩⟩⟩⟩⟩⟩⟩⟩⟩⟩⟩⟩⟩⟩⟩⟩⟩⟩⟩⟩⟩⟩⟩⟩⟩⟩⟩⟩⟩⟩⟩⟩⟩⟩⟩⟩⟩⟩⟩⟩⟩⟩⟩⟩⟩⟩⟩⟩⟩⟩⟩⟩⟩⟩⟩⟩⟩⟩⟩⟩⟩⟩⟩⟩⟩⟩⟩⟩⟩⟩⟩⟩⟩⟩⟩⟩⟩⟩⟩⟩⟩), (fun _ h => nomatch h)⟩
def gb_flX0 : List (Nat × Nat × Nat) := [(85, 7, 3), (92, 7, 6), (106, 7, 8), (61, 7, 12), (47, 3, 1), (95, 3, 2), (29, 0, 0), (33, 0, 1), (14, 0, 2), (20, 0, 3), (23, 0, 4), (26, 0, 5), (37, 0, 6)]
def gb_slX0 : List (Nat × Nat) := []
def gb_nlX0 : List (Nat × Int32) := []
def gb_llX0 : List (Nat × Int32) := []
def gb_tlX0 : List (Nat × Nat × Nat) := []
theorem gb_oX0 : gb_Own RX0 gb_flX0 gb_slX0 gb_nlX0 gb_llX0 gb_tlX0 := ⟨(List.forall_mem_cons.mpr ⟨(gb_fo_of gb_kl7 rfl (by decide) (gb_w1 64 rfl rfl)), List.forall_mem_cons.mpr ⟨(gb_fo_of gb_kl7 rfl (by decide) (gb_w1 76 rfl rfl)), List.forall_mem_cons.mpr ⟨(gb_fo_of gb_kl7 rfl (by decide) (gb_w1 84 rfl rfl)), List.forall_mem_cons.mpr ⟨(gb_fo_of gb_kl7 rfl (by decide) (gb_w1 99 rfl rfl)), List.forall_mem_cons.mpr ⟨(gb_fo_of gb_kl3 rfl (by decide) (gb_w1 185 rfl rfl)), List.forall_mem_cons.mpr ⟨(gb_fo_of gb_kl3 rfl (by decide) (gb_w1 193 rfl rfl)), List.forall_mem_cons.mpr ⟨(gb_fo_of gb_kl0 rfl (by decide) (gb_w2 29 rfl rfl)), List.forall_mem_cons.mpr ⟨(gb_fo_of gb_kl0 rfl (by decide) (gb_w2 30 rfl rfl)), List.forall_mem_cons.mpr ⟨(gb_fo_of gb_kl0 rfl (by decide) (gb_w2 31 rfl rfl)), List.forall_mem_cons.mpr ⟨(gb_fo_of gb_kl0 rfl (by decide) (gb_w2 32 rfl rfl)), List.forall_mem_cons.mpr ⟨(gb_fo_of gb_kl0 rfl (by decide) (gb_w2 33 rfl rfl)), List.forall_mem_cons.mpr ⟨(gb_fo_of gb_kl0 rfl (by decide) (gb_w2 34 rfl rfl)), List.forall_mem_cons.mpr ⟨(gb_fo_of gb_kl0 rfl (by decide) (gb_w2 37 rfl rfl)), fun _ h => nomatch h⟩⟩⟩⟩⟩⟩⟩⟩⟩⟩⟩⟩⟩), (fun _ h => nomatch h), (fun _ h => nomatch h), (fun _ h => nomatch h), ((fun _ h => nomatch h))⟩
def gb_lkX0 : List (Nat × Nat) := [(41, 88), (50, 1), (54, 90), (82, 48), (88, 49), (57, 93), (69, 2), (97, 91), (66, 92), (73, 95), (103, 94), (76, 99), (109, 97), (112, 98), (79, 96)]
def gb_lnX0 : List (Nat × Nat) := [(100, 32)]
set_option maxRecDepth 100000 in
theorem gb_nX0 : gb_Ln RX0 gb_lkX0 gb_lnX0 := ⟨(List.forall_mem_cons.mpr ⟨(gb_w4 26 rfl rfl), List.forall_mem_cons.mpr ⟨(gb_w4 30 rfl rfl), List.forall_mem_cons.mpr ⟨(gb_w4 31 rfl rfl), List.forall_mem_cons.mpr ⟨(gb_w4 35 rfl rfl), List.forall_mem_cons.mpr ⟨(gb_w4 36 rfl rfl), List.forall_mem_cons.mpr ⟨(gb_w4 37 rfl rfl), List.forall_mem_cons.mpr ⟨(gb_w4 41 rfl rfl), List.forall_mem_cons.mpr ⟨(gb_w4 42 rfl rfl), List.forall_mem_cons.mpr ⟨(gb_w4 46 rfl rfl), List.forall_mem_cons.mpr ⟨(gb_w4 50 rfl rfl), List.forall_mem_cons.mpr ⟨(gb_w4 55 rfl rfl), List.forall_mem_cons.mpr ⟨(gb_w4 59 rfl rfl), List.forall_mem_cons.mpr ⟨(gb_w4 63 rfl rfl), List.forall_mem_cons.mpr ⟨(gb_w4 67 rfl rfl), List.forall_mem_cons.mpr ⟨(gb_w4 71 rfl rfl), fun _ h => nomatch h⟩⟩⟩⟩⟩⟩⟩⟩⟩⟩⟩⟩⟩⟩⟩), (List.forall_mem_cons.mpr ⟨⟨rfl, _, List.mem_of_getElem? (i := 6) rfl⟩, fun _ h => nomatch h⟩)⟩
def gb_flX1 : List (Nat × Nat × Nat) := [(32, 3, 1), (44, 3, 2), (47, 3, 3), (50, 3, 4), (53, 3, 5), (20, 1, 0), (16, 1, 1), (56, 1, 2), (24, 1, 3)]
def gb_slX1 : List (Nat × Nat) := []
def gb_nlX1 : List (Nat × Int32) := []
def gb_llX1 : List (Nat × Int32) := []
def gb_tlX1 : List (Nat × Nat × Nat) := []
theorem gb_oX1 : gb_Own RX1 gb_flX1 gb_slX1 gb_nlX1 gb_llX1 gb_tlX1 := ⟨(List.forall_mem_cons.mpr ⟨(gb_fo_of gb_kl3 rfl (by decide) (gb_w1 186 rfl rfl)), List.forall_mem_cons.mpr ⟨(gb_fo_of gb_kl3 rfl (by decide) (gb_w1 190 rfl rfl)), List.forall_mem_cons.mpr ⟨(gb_fo_of gb_kl3 rfl (by decide) (gb_w1 197 rfl rfl)), List.forall_mem_cons.mpr ⟨(gb_fo_of gb_kl3 rfl (by decide) (gb_w1 202 rfl rfl)), List.forall_mem_cons.mpr ⟨(gb_fo_of gb_kl3 rfl (by decide) (gb_w1 205 rfl rfl)), List.forall_mem_cons.mpr ⟨(gb_fo_of gb_kl1 rfl (by decide) (gb_w2 81 rfl rfl)), List.forall_mem_cons.mpr ⟨(gb_fo_of gb_kl1 rfl (by decide) (gb_w2 82 rfl rfl)), List.forall_mem_cons.mpr ⟨(gb_fo_of gb_kl1 rfl (by decide) (gb_w2 83 rfl rfl)), List.forall_mem_cons.mpr ⟨(gb_fo_of gb_kl1 rfl (by decide) (gb_w2 84 rfl rfl)), fun _ h => nomatch h⟩⟩⟩⟩⟩⟩⟩⟩⟩), (fun _ h => nomatch h), (fun _ h => nomatch h), (fun _ h => nomatch h), ((fun _ h => nomatch h))⟩
def gb_lkX1 : List (Nat × Nat) := [(28, 76), (37, 1), (40, 2), (59, 79)]
def gb_lnX1 : List (Nat × Nat) := []
set_option maxRecDepth 100000 in
theorem gb_nX1 : gb_Ln RX1 gb_lkX1 gb_lnX1 := ⟨(List.forall_mem_cons.mpr ⟨(gb_w3 200 rfl rfl), List.forall_mem_cons.mpr ⟨(gb_w3 204 rfl rfl), List.forall_mem_cons.mpr ⟨(gb_w3 205 rfl rfl), List.forall_mem_cons.mpr ⟨(gb_w7 23 rfl rfl), fun _ h => nomatch h⟩⟩⟩⟩), (fun _ h => nomatch h)⟩
def gb_flX2 : List (Nat × Nat × Nat) := [(91, 7, 6), (98, 3, 1), (95, 3, 2), (144, 3, 3), (75, 3, 5), (128, 0, 5), (7, 2, 0), (13, 2, 1), (17, 2, 2), (21, 2, 3)]
def gb_slX2 : List (Nat × Nat) := []
def gb_nlX2 : List (Nat × Int32) := []
def gb_llX2 : List (Nat × Int32) := []
def gb_tlX2 : List (Nat × Nat × Nat) := []
theorem gb_oX2 : gb_Own RX2 gb_flX2 gb_slX2 gb_nlX2 gb_llX2 gb_tlX2 := ⟨(List.forall_mem_cons.mpr ⟨(gb_fo_of gb_kl7 rfl (by decide) (gb_w1 75 rfl rfl)), List.forall_mem_cons.mpr ⟨(gb_fo_of gb_kl3 rfl (by decide) (gb_w1 187 rfl rfl)), List.forall_mem_cons.mpr ⟨(gb_fo_of gb_kl3 rfl (by decide) (gb_w1 192 rfl rfl)), List.forall_mem_cons.mpr ⟨(gb_fo_of gb_kl3 rfl (by decide) (gb_w1 199 rfl rfl)), List.forall_mem_cons.mpr ⟨(gb_fo_of gb_kl3 rfl (by decide) (gb_w1 204 rfl rfl)), List.forall_mem_cons.mpr ⟨(gb_fo_of gb_kl0 rfl (by decide) (gb_w2 35 rfl rfl)), List.forall_mem_cons.mpr ⟨(gb_fo_of gb_kl2 rfl (by decide) (gb_w2 60 rfl rfl)), List.forall_mem_cons.mpr ⟨(gb_fo_of gb_kl2 rfl (by decide) (gb_w2 61 rfl rfl)), List.forall_mem_cons.mpr ⟨(gb_fo_of gb_kl2 rfl (by decide) (gb_w2 62 rfl rfl)), List.forall_mem_cons.mpr ⟨(gb_fo_of gb_kl2 rfl (by decide) (gb_w2 63 rfl rfl)), fun _ h => nomatch h⟩⟩⟩⟩⟩⟩⟩⟩⟩⟩), (fun _ h => nomatch h), (fun _ h => nomatch h), (fun _ h => nomatch h), ((fun _ h => nomatch h))⟩
def gb_lkX2 : List (Nat × Nat) := [(27, 41), (33, 84), (36, 86), (81, 1), (87, 2), (101, 48), (104, 85), (40, 122), (54, 103), (123, 100), (131, 101), (114, 102), (44, 87), (47, 121), (108, 120), (51, 119), (117, 117), (120, 118), (57, 114), (135, 113), (60, 107), (63, 111), (138, 110), (66, 104), (69, 106), (141, 105), (72, 89), (147, 88)]
def gb_lnX2 : List (Nat × Nat) := []
set_option maxRecDepth 100000 in
theorem gb_nX2 : gb_Ln RX2 gb_lkX2 gb_lnX2 := ⟨(List.forall_mem_cons.mpr ⟨(gb_w3 238 rfl rfl), List.forall_mem_cons.mpr ⟨(gb_w3 239 rfl rfl), List.forall_mem_cons.mpr ⟨(gb_w4 3 rfl rfl), List.forall_mem_cons.mpr ⟨(gb_w4 7 rfl rfl), List.forall_mem_cons.mpr ⟨(gb_w4 8 rfl rfl), List.forall_mem_cons.mpr ⟨(gb_w4 9 rfl rfl), List.forall_mem_cons.mpr ⟨(gb_w4 10 rfl rfl), List.forall_mem_cons.mpr ⟨(gb_w4 14 rfl rfl), List.forall_mem_cons.mpr ⟨(gb_w4 18 rfl rfl), List.forall_mem_cons.mpr ⟨(gb_w4 22 rfl rfl), List.forall_mem_cons.mpr ⟨(gb_w4 75 rfl rfl), List.forall_mem_cons.mpr ⟨(gb_w4 79 rfl rfl), List.forall_mem_cons.mpr ⟨(gb_w4 83 rfl rfl), List.forall_mem_cons.mpr ⟨(gb_w4 87 rfl rfl), List.forall_mem_cons.mpr ⟨(gb_w4 91 rfl rfl), List.forall_mem_cons.mpr ⟨(gb_w4 105 rfl rfl), List.forall_mem_cons.mpr ⟨(gb_w4 109 rfl rfl), List.forall_mem_cons.mpr ⟨(gb_w4 123 rfl rfl), List.forall_mem_cons.mpr ⟨(gb_w4 127 rfl rfl), List.forall_mem_cons.mpr ⟨(gb_w4 131 rfl rfl), List.forall_mem_cons.mpr ⟨(gb_w4 143 rfl rfl), List.forall_mem_cons.mpr ⟨(gb_w4 148 rfl rfl), List.forall_mem_cons.mpr ⟨(gb_w4 152 rfl rfl), List.forall_mem_cons.mpr ⟨(gb_w4 156 rfl rfl), List.forall_mem_cons.mpr ⟨(gb_w4 160 rfl rfl), List.forall_mem_cons.mpr ⟨(gb_w4 164 rfl rfl), List.forall_mem_cons.mpr ⟨(gb_w4 168 rfl rfl), List.forall_mem_cons.mpr ⟨(gb_w4 172 rfl rfl), fun _ h => nomatch h⟩⟩⟩⟩⟩⟩⟩⟩⟩⟩⟩⟩⟩⟩⟩⟩⟩⟩⟩⟩⟩⟩⟩⟩⟩⟩⟩⟩), (fun _ h => nomatch h)⟩
def gb_flX3 : List (Nat × Nat × Nat) := [(79, 7, 1), (43, 7, 6), (49, 7, 13), (56, 7, 14), (59, 7, 15), (32, 3, 0), (14, 3, 1), (20, 3, 2), (23, 3, 3), (26, 3, 4), (29, 3, 5)]
def gb_slX3 : List (Nat × Nat) := []
def gb_nlX3 : List (Nat × Int32) := []
def gb_llX3 : List (Nat × Int32) := []
def gb_tlX3 : List (Nat × Nat × Nat) := []
theorem gb_oX3 : gb_Own RX3 gb_flX3 gb_slX3 gb_nlX3 gb_llX3 gb_tlX3 := ⟨(List.forall_mem_cons.mpr ⟨(gb_fo_of gb_kl7 rfl (by decide) (gb_w1 58 rfl rfl)), List.forall_mem_cons.mpr ⟨(gb_fo_of gb_kl7 rfl (by decide) (gb_w1 74 rfl rfl)), List.forall_mem_cons.mpr ⟨(gb_fo_of gb_kl7 rfl (by decide) (gb_w1 103 rfl rfl)), List.forall_mem_cons.mpr ⟨(gb_fo_of gb_kl7 rfl (by decide) (gb_w1 106 rfl rfl)), List.forall_mem_cons.mpr ⟨(gb_fo_of gb_kl7 rfl (by decide) (gb_w1 110 rfl rfl)), List.forall_mem_cons.mpr ⟨(gb_fo_of gb_kl3 rfl (by decide) (gb_w1 182 rfl rfl)), List.forall_mem_cons.mpr ⟨(gb_fo_of gb_kl3 rfl (by decide) (gb_w1 183 rfl rfl)), List.forall_mem_cons.mpr ⟨(gb_fo_of gb_kl3 rfl (by decide) (gb_w1 189 rfl rfl)), List.forall_mem_cons.mpr ⟨(gb_fo_of gb_kl3 rfl (by decide) (gb_w1 196 rfl rfl)), List.forall_mem_cons.mpr ⟨(gb_fo_of gb_kl3 rfl (by decide) (gb_w1 201 rfl rfl)), List.forall_mem_cons.mpr ⟨(gb_fo_of gb_kl3 rfl (by decide) (gb_w1 203 rfl rfl)), fun _ h => nomatch h⟩⟩⟩⟩⟩⟩⟩⟩⟩⟩⟩), (fun _ h => nomatch h), (fun _ h => nomatch h), (fun _ h => nomatch h), ((fun _ h => nomatch h))⟩
def gb_lkX3 : List (Nat × Nat) := [(36, 2), (40, 51), (52, 1), (62, 50), (69, 48), (72, 49), (75, 115), (97, 186), (90, 206), (86, 204), (94, 205), (82, 101)]
def gb_lnX3 : List (Nat × Nat) := [(66, 32)]
set_option maxRecDepth 100000 in
theorem gb_nX3 : gb_Ln RX3 gb_lkX3 gb_lnX3 := ⟨(List.forall_mem_cons.mpr ⟨(gb_w1 224 rfl rfl), List.forall_mem_cons.mpr ⟨(gb_w1 225 rfl rfl), List.forall_mem_cons.mpr ⟨(gb_w1 229 rfl rfl), List.forall_mem_cons.mpr ⟨(gb_w1 233 rfl rfl), List.forall_mem_cons.mpr ⟨(gb_w1 237 rfl rfl), List.forall_mem_cons.mpr ⟨(gb_w2 1 rfl rfl), List.forall_mem_cons.mpr ⟨(gb_w4 119 rfl rfl), List.forall_mem_cons.mpr ⟨(gb_w4 204 rfl rfl), List.forall_mem_cons.mpr ⟨(gb_w4 227 rfl rfl), List.forall_mem_cons.mpr ⟨(gb_w4 231 rfl rfl), List.forall_mem_cons.mpr ⟨(gb_w4 235 rfl rfl), List.forall_mem_cons.mpr ⟨(gb_w6 211 rfl rfl), fun _ h => nomatch h⟩⟩⟩⟩⟩⟩⟩⟩⟩⟩⟩⟩), (List.forall_mem_cons.mpr ⟨⟨rfl, _, List.mem_of_getElem? (i := 1) rfl⟩, fun _ h => nomatch h⟩)⟩
def gb_flX4 : List (Nat × Nat × Nat) := [(89, 7, 7), (53, 7, 8), (86, 7, 10), (66, 7, 11), (39, 7, 12), (19, 3, 1), (72, 3, 2), (79, 3, 3), (9, 4, 0), (15, 4, 1)]
def gb_slX4 : List (Nat × Nat) := []
def gb_nlX4 : List (Nat × Int32) := []
def gb_llX4 : List (Nat × Int32) := []
def gb_tlX4 : List (Nat × Nat × Nat) := []
theorem gb_oX4 : gb_Own RX4 gb_flX4 gb_slX4 gb_nlX4 gb_llX4 gb_tlX4 := ⟨(List.forall_mem_cons.mpr ⟨(gb_fo_of gb_kl7 rfl (by decide) (gb_w1 79 rfl rfl)), List.forall_mem_cons.mpr ⟨(gb_fo_of gb_kl7 rfl (by decide) (gb_w1 83 rfl rfl)), List.forall_mem_cons.mpr ⟨(gb_fo_of gb_kl7 rfl (by decide) (gb_w1 89 rfl rfl)), List.forall_mem_cons.mpr ⟨(gb_fo_of gb_kl7 rfl (by decide) (gb_w1 94 rfl rfl)), List.forall_mem_cons.mpr ⟨(gb_fo_of gb_kl7 rfl (by decide) (gb_w1 98 rfl rfl)), List.forall_mem_cons.mpr ⟨(gb_fo_of gb_kl3 rfl (by decide) (gb_w1 184 rfl rfl)), List.forall_mem_cons.mpr ⟨(gb_fo_of gb_kl3 rfl (by decide) (gb_w1 194 rfl rfl)), List.forall_mem_cons.mpr ⟨(gb_fo_of gb_kl3 rfl (by decide) (gb_w1 198 rfl rfl)), List.forall_mem_cons.mpr ⟨(gb_fo_of gb_kl4 rfl (by decide) (gb_w2 14 rfl rfl)), List.forall_mem_cons.mpr ⟨(gb_fo_of gb_kl4 rfl (by decide) (gb_w2 15 rfl rfl)), fun _ h => nomatch h⟩⟩⟩⟩⟩⟩⟩⟩⟩⟩), (fun _ h => nomatch h), (fun _ h => nomatch h), (fun _ h => nomatch h), ((fun _ h => nomatch h))⟩
def gb_lkX4 : List (Nat × Nat) := [(25, 1), (31, 91), (35, 50), (44, 42), (47, 108), (82, 101), (50, 94), (56, 88), (59, 48), (62, 116), (69, 109), (75, 112)]
def gb_lnX4 : List (Nat × Nat) := []
set_option maxRecDepth 100000 in
theorem gb_nX4 : gb_Ln RX4 gb_lkX4 gb_lnX4 := ⟨(List.forall_mem_cons.mpr ⟨(gb_w4 95 rfl rfl), List.forall_mem_cons.mpr ⟨(gb_w4 96 rfl rfl), List.forall_mem_cons.mpr ⟨(gb_w4 97 rfl rfl), List.forall_mem_cons.mpr ⟨(gb_w4 98 rfl rfl), List.forall_mem_cons.mpr ⟨(gb_w4 99 rfl rfl), List.forall_mem_cons.mpr ⟨(gb_w4 103 rfl rfl), List.forall_mem_cons.mpr ⟨(gb_w4 104 rfl rfl), List.forall_mem_cons.mpr ⟨(gb_w4 113 rfl rfl), List.forall_mem_cons.mpr ⟨(gb_w4 114 rfl rfl), List.forall_mem_cons.mpr ⟨(gb_w4 115 rfl rfl), List.forall_mem_cons.mpr ⟨(gb_w4 135 rfl rfl), List.forall_mem_cons.mpr ⟨(gb_w4 139 rfl rfl), fun _ h => nomatch h⟩⟩⟩⟩⟩⟩⟩⟩⟩⟩⟩⟩), (fun _ h => nomatch h)⟩
def gb_flX5 : List (Nat × Nat × Nat) := [(32, 7, 0), (37, 7, 1), (43, 7, 11), (55, 7, 12), (66, 3, 2), (20, 5, 0), (24, 5, 1), (16, 5, 2), (28, 5, 3)]
def gb_slX5 : List (Nat × Nat) := []
def gb_nlX5 : List (Nat × Int32) := []
def gb_llX5 : List (Nat × Int32) := []
def gb_tlX5 : List (Nat × Nat × Nat) := []
theorem gb_oX5 : gb_Own RX5 gb_flX5 gb_slX5 gb_nlX5 gb_llX5 gb_tlX5 := ⟨(List.forall_mem_cons.mpr ⟨(gb_fo_of gb_kl7 rfl (by decide) (gb_w1 52 rfl rfl)), List.forall_mem_cons.mpr ⟨(gb_fo_of gb_kl7 rfl (by decide) (gb_w1 56 rfl rfl)), List.forall_mem_cons.mpr ⟨(gb_fo_of gb_kl7 rfl (by decide) (gb_w1 93 rfl rfl)), List.forall_mem_cons.mpr ⟨(gb_fo_of gb_kl7 rfl (by decide) (gb_w1 100 rfl rfl)), List.forall_mem_cons.mpr ⟨(gb_fo_of gb_kl3 rfl (by decide) (gb_w1 191 rfl rfl)), List.forall_mem_cons.mpr ⟨(gb_fo_of gb_kl5 rfl (by decide) (gb_w2 189 rfl rfl)), List.forall_mem_cons.mpr ⟨(gb_fo_of gb_kl5 rfl (by decide) (gb_w2 190 rfl rfl)), List.forall_mem_cons.mpr ⟨(gb_fo_of gb_kl5 rfl (by decide) (gb_w2 191 rfl rfl)), List.forall_mem_cons.mpr ⟨(gb_fo_of gb_kl5 rfl (by decide) (gb_w2 193 rfl rfl)), fun _ h => nomatch h⟩⟩⟩⟩⟩⟩⟩⟩⟩), (fun _ h => nomatch h), (fun _ h => nomatch h), (fun _ h => nomatch h), ((fun _ h => nomatch h))⟩
def gb_lkX5 : List (Nat × Nat) := [(40, 234), (72, 2), (46, 101), (52, 235), (58, 1), (62, 88), (69, 115)]
def gb_lnX5 : List (Nat × Nat) := []
set_option maxRecDepth 100000 in
theorem gb_nX5 : gb_Ln RX5 gb_lkX5 gb_lnX5 := ⟨(List.forall_mem_cons.mpr ⟨(gb_w6 230 rfl rfl), List.forall_mem_cons.mpr ⟨(gb_w6 234 rfl rfl), List.forall_mem_cons.mpr ⟨(gb_w6 235 rfl rfl), List.forall_mem_cons.mpr ⟨(gb_w6 236 rfl rfl), List.forall_mem_cons.mpr ⟨(gb_w7 0 rfl rfl), List.forall_mem_cons.mpr ⟨(gb_w7 1 rfl rfl), List.forall_mem_cons.mpr ⟨(gb_w7 2 rfl rfl), fun _ h => nomatch h⟩⟩⟩⟩⟩⟩⟩), (fun _ h => nomatch h)⟩
def gb_flX6 : List (Nat × Nat × Nat) := [(9, 6, 0)]
def gb_slX6 : List (Nat × Nat) := []
def gb_nlX6 : List (Nat × Int32) := []
def gb_llX6 : List (Nat × Int32) := []
def gb_tlX6 : List (Nat × Nat × Nat) := []
theorem gb_oX6 : gb_Own RX6 gb_flX6 gb_slX6 gb_nlX6 gb_llX6 gb_tlX6 := ⟨(List.forall_mem_cons.mpr ⟨(gb_fo_of gb_kl6 rfl (by decide) (gb_w1 46 rfl rfl)), fun _ h => nomatch h⟩), (fun _ h => nomatch h), (fun _ h => nomatch h), (fun _ h => nomatch h), ((fun _ h => nomatch h))⟩
def gb_lkX6 : List (Nat × Nat) := [(15, 1)]
def gb_lnX6 : List (Nat × Nat) := []
set_option maxRecDepth 100000 in
theorem gb_nX6 : gb_Ln RX6 gb_lkX6 gb_lnX6 := ⟨(List.forall_mem_cons.mpr ⟨(gb_w3 186 rfl rfl), fun _ h => nomatch h⟩), (fun _ h => nomatch h)⟩
def gb_flX7 : List (Nat × Nat × Nat) := [(44, 7, 0), (48, 7, 1), (51, 7, 2), (54, 7, 3), (57, 7, 4), (60, 7, 5), (63, 7, 6), (14, 7, 7), (20, 7, 8), (23, 7, 9), (26, 7, 10), (29, 7, 11), (32, 7, 12), (35, 7, 13), (38, 7, 14), (41, 7, 15)]
def gb_slX7 : List (Nat × Nat) := []
def gb_nlX7 : List (Nat × Int32) := []
def gb_llX7 : List (Nat × Int32) := []
def gb_tlX7 : List (Nat × Nat × Nat) := []
theorem gb_oX7 : gb_Own RX7 gb_flX7 gb_slX7 gb_nlX7 gb_llX7 gb_tlX7 := ⟨(List.forall_mem_cons.mpr ⟨(gb_fo_of gb_kl7 rfl (by decide) (gb_w1 51 rfl rfl)), List.forall_mem_cons.mpr ⟨(gb_fo_of gb_kl7 rfl (by decide) (gb_w1 55 rfl rfl)), List.forall_mem_cons.mpr ⟨(gb_fo_of gb_kl7 rfl (by decide) (gb_w1 60 rfl rfl)), List.forall_mem_cons.mpr ⟨(gb_fo_of gb_kl7 rfl (by decide) (gb_w1 63 rfl rfl)), List.forall_mem_cons.mpr ⟨(gb_fo_of gb_kl7 rfl (by decide) (gb_w1 67 rfl rfl)), List.forall_mem_cons.mpr ⟨(gb_fo_of gb_kl7 rfl (by decide) (gb_w1 70 rfl rfl)), List.forall_mem_cons.mpr ⟨(gb_fo_of gb_kl7 rfl (by decide) (gb_w1 73 rfl rfl)), List.forall_mem_cons.mpr ⟨(gb_fo_of gb_kl7 rfl (by decide) (gb_w1 78 rfl rfl)), List.forall_mem_cons.mpr ⟨(gb_fo_of gb_kl7 rfl (by decide) (gb_w1 82 rfl rfl)), List.forall_mem_cons.mpr ⟨(gb_fo_of gb_kl7 rfl (by decide) (gb_w1 86 rfl rfl)), List.forall_mem_cons.mpr ⟨(gb_fo_of gb_kl7 rfl (by decide) (gb_w1 88 rfl rfl)), List.forall_mem_cons.mpr ⟨(gb_fo_of gb_kl7 rfl (by decide) (gb_w1 92 rfl rfl)), List.forall_mem_cons.mpr ⟨(gb_fo_of gb_kl7 rfl (by decide) (gb_w1 97 rfl rfl)), List.forall_mem_cons.mpr ⟨(gb_fo_of gb_kl7 rfl (by decide) (gb_w1 102 rfl rfl)), List.forall_mem_cons.mpr ⟨(gb_fo_of gb_kl7 rfl (by decide) (gb_w1 105 rfl rfl)), List.forall_mem_cons.mpr ⟨(gb_fo_of gb_kl7 rfl (by decide) (gb_w1 109 rfl rfl)), fun _ h => nomatch h⟩⟩⟩⟩⟩⟩⟩⟩⟩⟩⟩⟩⟩⟩⟩⟩), (fun _ h => nomatch h), (fun _ h => nomatch h), (fun _ h => nomatch h), ((fun _ h => nomatch h))⟩
def gb_lkX7 : List (Nat × Nat) := [(66, 12), (69, 29), (87, 2), (72, 31), (76, 35), (79, 43), (98, 1), (94, 41), (83, 3), (90, 38)]
def gb_lnX7 : List (Nat × Nat) := [(102, 32)]
set_option maxRecDepth 100000 in
theorem gb_nX7 : gb_Ln RX7 gb_lkX7 gb_lnX7 := ⟨(List.forall_mem_cons.mpr ⟨(gb_w1 150 rfl rfl), List.forall_mem_cons.mpr ⟨(gb_w1 154 rfl rfl), List.forall_mem_cons.mpr ⟨(gb_w1 158 rfl rfl), List.forall_mem_cons.mpr ⟨(gb_w1 162 rfl rfl), List.forall_mem_cons.mpr ⟨(gb_w1 166 rfl rfl), List.forall_mem_cons.mpr ⟨(gb_w1 170 rfl rfl), List.forall_mem_cons.mpr ⟨(gb_w3 166 rfl rfl), List.forall_mem_cons.mpr ⟨(gb_w3 171 rfl rfl), List.forall_mem_cons.mpr ⟨(gb_w3 182 rfl rfl), List.forall_mem_cons.mpr ⟨(gb_w4 147 rfl rfl), fun _ h => nomatch h⟩⟩⟩⟩⟩⟩⟩⟩⟩⟩), (List.forall_mem_cons.mpr ⟨⟨rfl, _, List.mem_of_getElem? (i := 5) rfl⟩, fun _ h => nomatch h⟩)⟩
def gb_flX8 : List (Nat × Nat × Nat) := [(63, 7, 0), (67, 7, 1), (94, 7, 2), (138, 7, 3), (147, 7, 4), (114, 7, 5), (159, 7, 7), (150, 7, 10), (127, 7, 11), (135, 7, 14), (144, 7, 15), (91, 10, 2), (169, 10, 3), (97, 10, 5), (18, 8, 0), (12, 8, 1)]
def gb_slX8 : List (Nat × Nat) := [(49, 0), (73, 1), (86, 2), (107, 3), (112, 4), (116, 5)]
def gb_nlX8 : List (Nat × Int32) := []
def gb_llX8 : List (Nat × Int32) := []
def gb_tlX8 : List (Nat × Nat × Nat) := []
theorem gb_oX8 : gb_Own RX8 gb_flX8 gb_slX8 gb_nlX8 gb_llX8 gb_tlX8 := ⟨(List.forall_mem_cons.mpr ⟨(gb_fo_of gb_kl7 rfl (by decide) (gb_w1 53 rfl rfl)), List.forall_mem_cons.mpr ⟨(gb_fo_of gb_kl7 rfl (by decide) (gb_w1 57 rfl rfl)), List.forall_mem_cons.mpr ⟨(gb_fo_of gb_kl7 rfl (by decide) (gb_w1 61 rfl rfl)), List.forall_mem_cons.mpr ⟨(gb_fo_of gb_kl7 rfl (by decide) (gb_w1 65 rfl rfl)), List.forall_mem_cons.mpr ⟨(gb_fo_of gb_kl7 rfl (by decide) (gb_w1 68 rfl rfl)), List.forall_mem_cons.mpr ⟨(gb_fo_of gb_kl7 rfl (by decide) (gb_w1 71 rfl rfl)), List.forall_mem_cons.mpr ⟨(gb_fo_of gb_kl7 rfl (by decide) (gb_w1 80 rfl rfl)), List.forall_mem_cons.mpr ⟨(gb_fo_of gb_kl7 rfl (by decide) (gb_w1 90 rfl rfl)), List.forall_mem_cons.mpr ⟨(gb_fo_of gb_kl7 rfl (by decide) (gb_w1 95 rfl rfl)), List.forall_mem_cons.mpr ⟨(gb_fo_of gb_kl7 rfl (by decide) (gb_w1 107 rfl rfl)), List.forall_mem_cons.mpr ⟨(gb_fo_of gb_kl7 rfl (by decide) (gb_w1 111 rfl rfl)), List.forall_mem_cons.mpr ⟨(gb_fo_of gb_kl10 rfl (by decide) (gb_w2 109 rfl rfl)), List.forall_mem_cons.mpr ⟨(gb_fo_of gb_kl10 rfl (by decide) (gb_w2 112 rfl rfl)), List.forall_mem_cons.mpr ⟨(gb_fo_of gb_kl10 rfl (by decide) (gb_w2 116 rfl rfl)), List.forall_mem_cons.mpr ⟨(gb_fo_of gb_kl8 rfl (by decide) (gb_w2 147 rfl rfl)), List.forall_mem_cons.mpr ⟨(gb_fo_of gb_kl8 rfl (by decide) (gb_w2 148 rfl rfl)), fun _ h => nomatch h⟩⟩⟩⟩⟩⟩⟩⟩⟩⟩⟩⟩⟩⟩⟩⟩), (List.forall_mem_cons.mpr ⟨⟨_, List.mem_of_getElem? (i := 0) rfl⟩, List.forall_mem_cons.mpr ⟨⟨_, List.mem_of_getElem? (i := 1) rfl⟩, List.forall_mem_cons.mpr ⟨⟨_, List.mem_of_getElem? (i := 2) rfl⟩, List.forall_mem_cons.mpr ⟨⟨_, List.mem_of_getElem? (i := 3) rfl⟩, List.forall_mem_cons.mpr ⟨⟨_, List.mem_of_getElem? (i := 4) rfl⟩, List.forall_mem_cons.mpr ⟨⟨_, List.mem_of_getElem? (i := 5) rfl⟩, fun _ h => nomatch h⟩⟩⟩⟩⟩⟩), (fun _ h => nomatch h), (fun _ h => nomatch h), ((fun _ h => nomatch h))⟩
def gb_lkX8 : List (Nat × Nat) := [(22, 12), (25, 20), (30, 28), (51, 24), (75, 21), (78, 23), (172, 22), (118, 19), (55, 25), (59, 26), (70, 27), (34, 30), (82, 29), (37, 34), (88, 33), (103, 31), (40, 36), (109, 35), (43, 37), (46, 45), (121, 44), (124, 38), (131, 40), (166, 39), (141, 42), (153, 1), (162, 43)]
def gb_lnX8 : List (Nat × Nat) := [(100, 32)]
set_option maxRecDepth 100000 in
theorem gb_nX8 : gb_Ln RX8 gb_lkX8 gb_lnX8 := ⟨(List.forall_mem_cons.mpr ⟨(gb_w3 3 rfl rfl), List.forall_mem_cons.mpr ⟨(gb_w3 4 rfl rfl), List.forall_mem_cons.mpr ⟨(gb_w3 35 rfl rfl), List.forall_mem_cons.mpr ⟨(gb_w3 40 rfl rfl), List.forall_mem_cons.mpr ⟨(gb_w3 44 rfl rfl), List.forall_mem_cons.mpr ⟨(gb_w3 96 rfl rfl), List.forall_mem_cons.mpr ⟨(gb_w3 100 rfl rfl), List.forall_mem_cons.mpr ⟨(gb_w3 104 rfl rfl), List.forall_mem_cons.mpr ⟨(gb_w3 105 rfl rfl), List.forall_mem_cons.mpr ⟨(gb_w3 109 rfl rfl), List.forall_mem_cons.mpr ⟨(gb_w3 113 rfl rfl), List.forall_mem_cons.mpr ⟨(gb_w3 117 rfl rfl), List.forall_mem_cons.mpr ⟨(gb_w3 122 rfl rfl), List.forall_mem_cons.mpr ⟨(gb_w3 123 rfl rfl), List.forall_mem_cons.mpr ⟨(gb_w3 128 rfl rfl), List.forall_mem_cons.mpr ⟨(gb_w3 133 rfl rfl), List.forall_mem_cons.mpr ⟨(gb_w3 134 rfl rfl), List.forall_mem_cons.mpr ⟨(gb_w3 139 rfl rfl), List.forall_mem_cons.mpr ⟨(gb_w3 140 rfl rfl), List.forall_mem_cons.mpr ⟨(gb_w3 145 rfl rfl), List.forall_mem_cons.mpr ⟨(gb_w3 150 rfl rfl), List.forall_mem_cons.mpr ⟨(gb_w3 154 rfl rfl), List.forall_mem_cons.mpr ⟨(gb_w3 158 rfl rfl), List.forall_mem_cons.mpr ⟨(gb_w3 162 rfl rfl), List.forall_mem_cons.mpr ⟨(gb_w3 167 rfl rfl), List.forall_mem_cons.mpr ⟨(gb_w3 176 rfl rfl), List.forall_mem_cons.mpr ⟨(gb_w3 177 rfl rfl), fun _ h => nomatch h⟩⟩⟩⟩⟩⟩⟩⟩⟩⟩⟩⟩⟩⟩⟩⟩⟩⟩⟩⟩⟩⟩⟩⟩⟩⟩⟩), (List.forall_mem_cons.mpr ⟨⟨rfl, _, List.mem_of_getElem? (i := 4) rfl⟩, fun _ h => nomatch h⟩)⟩
def gb_flX9 : List (Nat × Nat × Nat) := [(40, 10, 2), (15, 10, 3), (43, 10, 4), (46, 10, 5), (9, 9, 0), (26, 9, 1), (21, 9, 2), (49, 9, 3), (52, 9, 4)]
def gb_slX9 : List (Nat × Nat) := [(63, 6), (65, 7), (67, 8), (69, 9), (71, 10), (73, 11), (75, 12), (77, 13), (79, 14), (81, 15)]
def gb_nlX9 : List (Nat × Int32) := []
def gb_llX9 : List (Nat × Int32) := []
def gb_tlX9 : List (Nat × Nat × Nat) := []
theorem gb_oX9 : gb_Own RX9 gb_flX9 gb_slX9 gb_nlX9 gb_llX9 gb_tlX9 := ⟨(List.forall_mem_cons.mpr ⟨(gb_fo_of gb_kl10 rfl (by decide) (gb_w2 106 rfl rfl)), List.forall_mem_cons.mpr ⟨(gb_fo_of gb_kl10 rfl (by decide) (gb_w2 110 rfl rfl)), List.forall_mem_cons.mpr ⟨(gb_fo_of gb_kl10 rfl (by decide) (gb_w2 113 rfl rfl)), List.forall_mem_cons.mpr ⟨(gb_fo_of gb_kl10 rfl (by decide) (gb_w2 115 rfl rfl)), List.forall_mem_cons.mpr ⟨(gb_fo_of gb_kl9 rfl (by decide) (gb_w2 161 rfl rfl)), List.forall_mem_cons.mpr ⟨(gb_fo_of gb_kl9 rfl (by decide) (gb_w2 162 rfl rfl)), List.forall_mem_cons.mpr ⟨(gb_fo_of gb_kl9 rfl (by decide) (gb_w2 164 rfl rfl)), List.forall_mem_cons.mpr ⟨(gb_fo_of gb_kl9 rfl (by decide) (gb_w2 166 rfl rfl)), List.forall_mem_cons.mpr ⟨(gb_fo_of gb_kl9 rfl (by decide) (gb_w2 168 rfl rfl)), fun _ h => nomatch h⟩⟩⟩⟩⟩⟩⟩⟩⟩), (List.forall_mem_cons.mpr ⟨⟨_, List.mem_of_getElem? (i := 6) rfl⟩, List.forall_mem_cons.mpr ⟨⟨_, List.mem_of_getElem? (i := 7) rfl⟩, List.forall_mem_cons.mpr ⟨⟨_, List.mem_of_getElem? (i := 8) rfl⟩, List.forall_mem_cons.mpr ⟨⟨_, List.mem_of_getElem? (i := 9) rfl⟩, List.forall_mem_cons.mpr ⟨⟨_, List.mem_of_getElem? (i := 10) rfl⟩, List.forall_mem_cons.mpr ⟨⟨_, List.mem_of_getElem? (i := 11) rfl⟩, List.forall_mem_cons.mpr ⟨⟨_, List.mem_of_getElem? (i := 12) rfl⟩, List.forall_mem_cons.mpr ⟨⟨_, List.mem_of_getElem? (i := 13) rfl⟩, List.forall_mem_cons.mpr ⟨⟨_, List.mem_of_getElem? (i := 14) rfl⟩, List.forall_mem_cons.mpr ⟨⟨_, List.mem_of_getElem? (i := 15) rfl⟩, fun _ h => nomatch h⟩⟩⟩⟩⟩⟩⟩⟩⟩⟩), (fun _ h => nomatch h), (fun _ h => nomatch h), ((fun _ h => nomatch h))⟩
def gb_lkX9 : List (Nat × Nat) := [(22, 81), (55, 80), (59, 21), (29, 22), (33, 19), (36, 82)]
def gb_lnX9 : List (Nat × Nat) := []
set_option maxRecDepth 100000 in
theorem gb_nX9 : gb_Ln RX9 gb_lkX9 gb_lnX9 := ⟨(List.forall_mem_cons.mpr ⟨(gb_w3 211 rfl rfl), List.forall_mem_cons.mpr ⟨(gb_w3 215 rfl rfl), List.forall_mem_cons.mpr ⟨(gb_w3 228 rfl rfl), List.forall_mem_cons.mpr ⟨(gb_w3 229 rfl rfl), List.forall_mem_cons.mpr ⟨(gb_w3 230 rfl rfl), List.forall_mem_cons.mpr ⟨(gb_w3 231 rfl rfl), fun _ h => nomatch h⟩⟩⟩⟩⟩⟩), (fun _ h => nomatch h)⟩
def gb_flX10 : List (Nat × Nat × Nat) := [(14, 10, 0), (24, 10, 1), (50, 10, 2), (44, 10, 3), (34, 10, 4), (75, 10, 5), (31, 10, 6), (20, 10, 7)]
def gb_slX10 : List (Nat × Nat) := []
def gb_nlX10 : List (Nat × Int32) := [(78, 1000000)]
def gb_llX10 : List (Nat × Int32) := []
def gb_tlX10 : List (Nat × Nat × Nat) := []
theorem gb_oX10 : gb_Own RX10 gb_flX10 gb_slX10 gb_nlX10 gb_llX10 gb_tlX10 := ⟨(List.forall_mem_cons.mpr ⟨(gb_fo_of gb_kl10 rfl (by decide) (gb_w2 103 rfl rfl)), List.forall_mem_cons.mpr ⟨(gb_fo_of gb_kl10 rfl (by decide) (gb_w2 105 rfl rfl)), List.forall_mem_cons.mpr ⟨(gb_fo_of gb_kl10 rfl (by decide) (gb_w2 107 rfl rfl)), List.forall_mem_cons.mpr ⟨(gb_fo_of gb_kl10 rfl (by decide) (gb_w2 111 rfl rfl)), List.forall_mem_cons.mpr ⟨(gb_fo_of gb_kl10 rfl (by decide) (gb_w2 114 rfl rfl)), List.forall_mem_cons.mpr ⟨(gb_fo_of gb_kl10 rfl (by decide) (gb_w2 117 rfl rfl)), List.forall_mem_cons.mpr ⟨(gb_fo_of gb_kl10 rfl (by decide) (gb_w2 118 rfl rfl)), List.forall_mem_cons.mpr ⟨(gb_fo_of gb_kl10 rfl (by decide) (gb_w2 120 rfl rfl)), fun _ h => nomatch h⟩⟩⟩⟩⟩⟩⟩⟩), (fun _ h => nomatch h), (List.forall_mem_cons.mpr ⟨(gb_w3 31 rfl rfl), fun _ h => nomatch h⟩), (fun _ h => nomatch h), ((fun _ h => nomatch h))⟩
def gb_lkX10 : List (Nat × Nat) := [(37, 19), (40, 13), (47, 1), (53, 14), (57, 18), (60, 15), (63, 17), (79, 16), (66, 4), (71, 5), (27, 2)]
def gb_lnX10 : List (Nat × Nat) := []
set_option maxRecDepth 100000 in
theorem gb_nX10 : gb_Ln RX10 gb_lkX10 gb_lnX10 := ⟨(List.forall_mem_cons.mpr ⟨(gb_w3 8 rfl rfl), List.forall_mem_cons.mpr ⟨(gb_w3 12 rfl rfl), List.forall_mem_cons.mpr ⟨(gb_w3 16 rfl rfl), List.forall_mem_cons.mpr ⟨(gb_w3 17 rfl rfl), List.forall_mem_cons.mpr ⟨(gb_w3 20 rfl rfl), List.forall_mem_cons.mpr ⟨(gb_w3 24 rfl rfl), List.forall_mem_cons.mpr ⟨(gb_w3 27 rfl rfl), List.forall_mem_cons.mpr ⟨(gb_w3 32 rfl rfl), List.forall_mem_cons.mpr ⟨(gb_w3 48 rfl rfl), List.forall_mem_cons.mpr ⟨(gb_w3 58 rfl rfl), List.forall_mem_cons.mpr ⟨(gb_w5 83 rfl rfl), fun _ h => nomatch h⟩⟩⟩⟩⟩⟩⟩⟩⟩⟩⟩), (fun _ h => nomatch h)⟩
def gb_flX11 : List (Nat × Nat × Nat) := [(287, 7, 0), (290, 7, 1), (293, 7, 2), (270, 7, 3), (296, 7, 4), (298, 7, 5), (128, 7, 6), (360, 7, 7), (332, 7, 8), (335, 7, 9), (350, 7, 10), (309, 7, 11), (312, 7, 12), (318, 7, 13), (321, 7, 14), (324, 7, 15), (218, 3, 1), (242, 3, 2), (236, 3, 3), (338, 3, 5), (280, 0, 5), (210, 0, 6), (411, 1, 3), (95, 10, 1), (135, 10, 2), (170, 10, 6), (173, 10, 7), (119, 8, 1), (141, 9, 1), (154, 9, 2), (144, 9, 3), (147, 9, 4), (408, 5, 2), (405, 5, 3), (10, 11, 0), (24, 11, 1), (36, 11, 2), (43, 11, 3), (52, 11, 4), (61, 11, 5), (68, 11, 6), (77, 11, 7), (84, 11, 8), (91, 11, 9)]
def gb_slX11 : List (Nat × Nat) := [(101, 16), (112, 17), (427, 18), (432, 19), (422, 20), (446, 21), (437, 22), (442, 23), (277, 24), (283, 25), (307, 26), (330, 27), (348, 28), (353, 29), (357, 30), (366, 31), (444, 32), (378, 33), (383, 34), (385, 35), (406, 36), (414, 37)]
def gb_nlX11 : List (Nat × Int32) := []
def gb_llX11 : List (Nat × Int32) := []
def gb_tlX11 : List (Nat × Nat × Nat) := [(99, 103, 1), (110, 114, 2), (275, 279, 4), (355, 359, 3)]
theorem gb_twX11_0 : gb_tw RX11 99 103 1 := gb_zip_at (is := [1082, 128, 125, 1104, 1113, 1118, 1121, 1123, 1105, 1106, 143, 144, 1107, 1112, 1119, 1139, 1094, 1140, 1096, 1141, 1098, 1108, 1110, 1100, 1135, 1136, 1138, 1100, 1126, 1127, 1128, 1129, 1086, 1129, 1130, 1131, 1132, 1088, 1132, 1133, 1134, 1135, 1090, 1125, 1083, 1084, 1091, 1092, 1093, 1095, 1097, 1099, 1137, 1102, 1101]) (by decide +kernel)
theorem gb_twX11_1 : gb_tw RX11 110 114 2 := gb_zip_at (is := [1163, 129, 125, 1104, 1113, 1118, 1121, 1123, 1105, 1106, 143, 144, 1107, 1112, 1119, 1139, 1094, 1140, 1096, 1141, 1098, 1108, 1110, 1100, 1135, 1136, 1138, 1100, 1174, 1175, 1176, 1129, 1086, 1129, 1130, 1131, 1132, 1088, 1132, 1133, 1134, 1135, 1090, 1173, 1164, 1165, 1166, 1115, 1167, 1168, 1169, 1170, 1137, 1102, 1171]) (by decide +kernel)
theorem gb_twX11_2 : gb_tw RX11 275 279 4 := gb_zip_at (is := [1361, 136, 125, 1104, 1113, 1118, 1121, 1123, 1105, 1106, 143, 144, 1107, 1112, 1119, 1139, 1094, 1140, 1096, 1141, 1098, 1108, 1110, 1100, 1135, 1136, 1138, 1100, 1372, 1373, 1374, 1129, 1086, 1129, 1130, 1131, 1132, 1088, 1132, 1133, 1134, 1135, 1090, 1371, 1362, 1363, 1364, 1117, 1365, 1366, 1367, 1368, 1137, 1102, 1369]) (by decide +kernel)
theorem gb_twX11_3 : gb_tw RX11 355 359 3 := gb_zip_at (is := [1192, 135, 125, 1104, 1113, 1118, 1121, 1123, 1105, 1106, 143, 144, 1107, 1112, 1119, 1139, 1094, 1140, 1096, 1141, 1098, 1108, 1110, 1100, 1135, 1136, 1138, 1100, 1203, 1204, 1205, 1129, 1086, 1129, 1130, 1131, 1132, 1088, 1132, 1133, 1134, 1135, 1090, 1202, 1193, 1194, 1195, 1116, 1196, 1197, 1198, 1199, 1137, 1102, 1200]) (by decide +kernel)
theorem gb_oX11 : gb_Own RX11 gb_flX11 gb_slX11 gb_nlX11 gb_llX11 gb_tlX11 := ⟨(List.forall_mem_cons.mpr ⟨(gb_fo_of gb_kl7 rfl (by decide) (gb_w1 54 rfl rfl)), List.forall_mem_cons.mpr ⟨(gb_fo_of gb_kl7 rfl (by decide) (gb_w1 59 rfl rfl)), List.forall_mem_cons.mpr ⟨(gb_fo_of gb_kl7 rfl (by decide) (gb_w1 62 rfl rfl)), List.forall_mem_cons.mpr ⟨(gb_fo_of gb_kl7 rfl (by decide) (gb_w1 66 rfl rfl)), List.forall_mem_cons.mpr ⟨(gb_fo_of gb_kl7 rfl (by decide) (gb_w1 69 rfl rfl)), List.forall_mem_cons.mpr ⟨(gb_fo_of gb_kl7 rfl (by decide) (gb_w1 72 rfl rfl)), List.forall_mem_cons.mpr ⟨(gb_fo_of gb_kl7 rfl (by decide) (gb_w1 77 rfl rfl)), List.forall_mem_cons.mpr ⟨(gb_fo_of gb_kl7 rfl (by decide) (gb_w1 81 rfl rfl)), List.forall_mem_cons.mpr ⟨(gb_fo_of gb_kl7 rfl (by decide) (gb_w1 85 rfl rfl)), List.forall_mem_cons.mpr ⟨(gb_fo_of gb_kl7 rfl (by decide) (gb_w1 87 rfl rfl)), List.forall_mem_cons.mpr ⟨(gb_fo_of gb_kl7 rfl (by decide) (gb_w1 91 rfl rfl)), List.forall_mem_cons.mpr ⟨(gb_fo_of gb_kl7 rfl (by decide) (gb_w1 96 rfl rfl)), List.forall_mem_cons.mpr ⟨(gb_fo_of gb_kl7 rfl (by decide) (gb_w1 101 rfl rfl)), List.forall_mem_cons.mpr ⟨(gb_fo_of gb_kl7 rfl (by decide) (gb_w1 104 rfl rfl)), List.forall_mem_cons.mpr ⟨(gb_fo_of gb_kl7 rfl (by decide) (gb_w1 108 rfl rfl)), List.forall_mem_cons.mpr ⟨(gb_fo_of gb_kl7 rfl (by decide) (gb_w1 112 rfl rfl)), List.forall_mem_cons.mpr ⟨(gb_fo_of gb_kl3 rfl (by decide) (gb_w1 188 rfl rfl)), List.forall_mem_cons.mpr ⟨(gb_fo_of gb_kl3 rfl (by decide) (gb_w1 195 rfl rfl)), List.forall_mem_cons.mpr ⟨(gb_fo_of gb_kl3 rfl (by decide) (gb_w1 200 rfl rfl)), List.forall_mem_cons.mpr ⟨(gb_fo_of gb_kl3 rfl (by decide) (gb_w1 206 rfl rfl)), List.forall_mem_cons.mpr ⟨(gb_fo_of gb_kl0 rfl (by decide) (gb_w2 36 rfl rfl)), List.forall_mem_cons.mpr ⟨(gb_fo_of gb_kl0 rfl (by decide) (gb_w2 38 rfl rfl)), List.forall_mem_cons.mpr ⟨(gb_fo_of gb_kl1 rfl (by decide) (gb_w2 85 rfl rfl)), List.forall_mem_cons.mpr ⟨(gb_fo_of gb_kl10 rfl (by decide) (gb_w2 104 rfl rfl)), List.forall_mem_cons.mpr ⟨(gb_fo_of gb_kl10 rfl (by decide) (gb_w2 108 rfl rfl)), List.forall_mem_cons.mpr ⟨(gb_fo_of gb_kl10 rfl (by decide) (gb_w2 119 rfl rfl)), List.forall_mem_cons.mpr ⟨(gb_fo_of gb_kl10 rfl (by decide) (gb_w2 121 rfl rfl)), List.forall_mem_cons.mpr ⟨(gb_fo_of gb_kl8 rfl (by decide) (gb_w2 149 rfl rfl)), List.forall_mem_cons.mpr ⟨(gb_fo_of gb_kl9 rfl (by decide) (gb_w2 163 rfl rfl)), List.forall_mem_cons.mpr ⟨(gb_fo_of gb_kl9 rfl (by decide) (gb_w2 165 rfl rfl)), List.forall_mem_cons.mpr ⟨(gb_fo_of gb_kl9 rfl (by decide) (gb_w2 167 rfl rfl)), List.forall_mem_cons.mpr ⟨(gb_fo_of gb_kl9 rfl (by decide) (gb_w2 169 rfl rfl)), List.forall_mem_cons.mpr ⟨(gb_fo_of gb_kl5 rfl (by decide) (gb_w2 192 rfl rfl)), List.forall_mem_cons.mpr ⟨(gb_fo_of gb_kl5 rfl (by decide) (gb_w2 194 rfl rfl)), List.forall_mem_cons.mpr ⟨(gb_fo_of gb_kl11 rfl (by decide) (gb_w2 204 rfl rfl)), List.forall_mem_cons.mpr ⟨(gb_fo_of gb_kl11 rfl (by decide) (gb_w2 205 rfl rfl)), List.forall_mem_cons.mpr ⟨(gb_fo_of gb_kl11 rfl (by decide) (gb_w2 206 rfl rfl)), List.forall_mem_cons.mpr ⟨(gb_fo_of gb_kl11 rfl (by decide) (gb_w2 207 rfl rfl)), List.forall_mem_cons.mpr ⟨(gb_fo_of gb_kl11 rfl (by decide) (gb_w2 208 rfl rfl)), List.forall_mem_cons.mpr ⟨(gb_fo_of gb_kl11 rfl (by decide) (gb_w2 209 rfl rfl)), List.forall_mem_cons.mpr ⟨(gb_fo_of gb_kl11 rfl (by decide) (gb_w2 210 rfl rfl)), List.forall_mem_cons.mpr ⟨(gb_fo_of gb_kl11 rfl (by decide) (gb_w2 211 rfl rfl)), List.forall_mem_cons.mpr ⟨(gb_fo_of gb_kl11 rfl (by decide) (gb_w2 212 rfl rfl)), List.forall_mem_cons.mpr ⟨(gb_fo_of gb_kl11 rfl (by decide) (gb_w2 213 rfl rfl)), fun _ h => nomatch h⟩⟩⟩⟩⟩⟩⟩⟩⟩⟩⟩⟩⟩⟩⟩⟩⟩⟩⟩⟩⟩⟩⟩⟩⟩⟩⟩⟩⟩⟩⟩⟩⟩⟩⟩⟩⟩⟩⟩⟩⟩⟩⟩⟩), (List.forall_mem_cons.mpr ⟨⟨_, List.mem_of_getElem? (i := 16) rfl⟩, List.forall_mem_cons.mpr ⟨⟨_, List.mem_of_getElem? (i := 17) rfl⟩, List.forall_mem_cons.mpr ⟨⟨_, List.mem_of_getElem? (i := 18) rfl⟩, List.forall_mem_cons.mpr ⟨⟨_, List.mem_of_getElem? (i := 19) rfl⟩, List.forall_mem_cons.mpr ⟨⟨_, List.mem_of_getElem? (i := 20) rfl⟩, List.forall_mem_cons.mpr ⟨⟨_, List.mem_of_getElem? (i := 21) rfl⟩, List.forall_mem_cons.mpr ⟨⟨_, List.mem_of_getElem? (i := 22) rfl⟩, List.forall_mem_cons.mpr ⟨⟨_, List.mem_of_getElem? (i := 23) rfl⟩, List.forall_mem_cons.mpr ⟨⟨_, List.mem_of_getElem? (i := 24) rfl⟩, List.forall_mem_cons.mpr ⟨⟨_, List.mem_of_getElem? (i := 25) rfl⟩, List.forall_mem_cons.mpr ⟨⟨_, List.mem_of_getElem? (i := 26) rfl⟩, List.forall_mem_cons.mpr ⟨⟨_, List.mem_of_getElem? (i := 27) rfl⟩, List.forall_mem_cons.mpr ⟨⟨_, List.mem_of_getElem? (i := 28) rfl⟩, List.forall_mem_cons.mpr ⟨⟨_, List.mem_of_getElem? (i := 29) rfl⟩, List.forall_mem_cons.mpr ⟨⟨_, List.mem_of_getElem? (i := 30) rfl⟩, List.forall_mem_cons.mpr ⟨⟨_, List.mem_of_getElem? (i := 31) rfl⟩, List.forall_mem_cons.mpr ⟨⟨_, List.mem_of_getElem? (i := 32) rfl⟩, List.forall_mem_cons.mpr ⟨⟨_, List.mem_of_getElem? (i := 33) rfl⟩, List.forall_mem_cons.mpr ⟨⟨_, List.mem_of_getElem? (i := 34) rfl⟩, List.forall_mem_cons.mpr ⟨⟨_, List.mem_of_getElem? (i := 35) rfl⟩, List.forall_mem_cons.mpr ⟨⟨_, List.mem_of_getElem? (i := 36) rfl⟩, List.forall_mem_cons.mpr ⟨⟨_, List.mem_of_getElem? (i := 37) rfl⟩, fun _ h => nomatch h⟩⟩⟩⟩⟩⟩⟩⟩⟩⟩⟩⟩⟩⟩⟩⟩⟩⟩⟩⟩⟩⟩), (fun _ h => nomatch h), (fun _ h => nomatch h), (List.forall_mem_cons.mpr ⟨gb_twX11_0, List.forall_mem_cons.mpr ⟨gb_twX11_1, List.forall_mem_cons.mpr ⟨gb_twX11_2, List.forall_mem_cons.mpr ⟨gb_twX11_3, fun _ h => nomatch h⟩⟩⟩⟩)⟩
def gb_lkX11 : List (Nat × Nat) := [(16, 246), (28, 52), (115, 46), (122, 47), (125, 53), (131, 77), (134, 20), (138, 83), (150, 123), (157, 22), (161, 19), (164, 79), (167, 78), (211, 122), (248, 187), (251, 51), (222, 1), (196, 94), (391, 16), (396, 228), (399, 231), (106, 6), (176, 402), (424, 41), (179, 403), (429, 84), (182, 86), (186, 405), (419, 87), (189, 121), (192, 406), (200, 119), (203, 177), (206, 103), (215, 114), (227, 411), (434, 107), (230, 111), (233, 413), (439, 104), (239, 106), (245, 89), (254, 120), (258, 117), (261, 113), (264, 110), (267, 105), (272, 100), (285, 38), (301, 206), (304, 205), (315, 115), (327, 186), (341, 211), (344, 204), (363, 92), (368, 432), (371, 101), (375, 50), (380, 88), (387, 224), (402, 236), (416, 241)]
def gb_lnX11 : List (Nat × Nat) := []
set_option maxRecDepth 100000 in
theorem gb_nX11 : gb_Ln RX11 gb_lkX11 gb_lnX11 := ⟨(List.forall_mem_cons.mpr ⟨(gb_w1 146 rfl rfl), List.forall_mem_cons.mpr ⟨(gb_w1 220 rfl rfl), List.forall_mem_cons.mpr ⟨(gb_w2 239 rfl rfl), List.forall_mem_cons.mpr ⟨(gb_w3 178 rfl rfl), List.forall_mem_cons.mpr ⟨(gb_w3 187 rfl rfl), List.forall_mem_cons.mpr ⟨(gb_w3 196 rfl rfl), List.forall_mem_cons.mpr ⟨(gb_w3 206 rfl rfl), List.forall_mem_cons.mpr ⟨(gb_w3 207 rfl rfl), List.forall_mem_cons.mpr ⟨(gb_w3 234 rfl rfl), List.forall_mem_cons.mpr ⟨(gb_w4 173 rfl rfl), List.forall_mem_cons.mpr ⟨(gb_w4 174 rfl rfl), List.forall_mem_cons.mpr ⟨(gb_w4 175 rfl rfl), List.forall_mem_cons.mpr ⟨(gb_w4 179 rfl rfl), List.forall_mem_cons.mpr ⟨(gb_w4 195 rfl rfl), List.forall_mem_cons.mpr ⟨(gb_w4 200 rfl rfl), List.forall_mem_cons.mpr ⟨(gb_w4 208 rfl rfl), List.forall_mem_cons.mpr ⟨(gb_w4 213 rfl rfl), List.forall_mem_cons.mpr ⟨(gb_w4 214 rfl rfl), List.forall_mem_cons.mpr ⟨(gb_w4 215 rfl rfl), List.forall_mem_cons.mpr ⟨(gb_w4 216 rfl rfl), List.forall_mem_cons.mpr ⟨(gb_w4 223 rfl rfl), List.forall_mem_cons.mpr ⟨(gb_w5 79 rfl rfl), List.forall_mem_cons.mpr ⟨(gb_w5 116 rfl rfl), List.forall_mem_cons.mpr ⟨(gb_w5 120 rfl rfl), List.forall_mem_cons.mpr ⟨(gb_w5 137 rfl rfl), List.forall_mem_cons.mpr ⟨(gb_w5 141 rfl rfl), List.forall_mem_cons.mpr ⟨(gb_w5 143 rfl rfl), List.forall_mem_cons.mpr ⟨(gb_w5 151 rfl rfl), List.forall_mem_cons.mpr ⟨(gb_w5 155 rfl rfl), List.forall_mem_cons.mpr ⟨(gb_w5 157 rfl rfl), List.forall_mem_cons.mpr ⟨(gb_w5 158 rfl rfl), List.forall_mem_cons.mpr ⟨(gb_w5 170 rfl rfl), List.forall_mem_cons.mpr ⟨(gb_w5 171 rfl rfl), List.forall_mem_cons.mpr ⟨(gb_w5 182 rfl rfl), List.forall_mem_cons.mpr ⟨(gb_w5 190 rfl rfl), List.forall_mem_cons.mpr ⟨(gb_w5 198 rfl rfl), List.forall_mem_cons.mpr ⟨(gb_w5 202 rfl rfl), List.forall_mem_cons.mpr ⟨(gb_w5 204 rfl rfl), List.forall_mem_cons.mpr ⟨(gb_w5 212 rfl rfl), List.forall_mem_cons.mpr ⟨(gb_w5 216 rfl rfl), List.forall_mem_cons.mpr ⟨(gb_w5 218 rfl rfl), List.forall_mem_cons.mpr ⟨(gb_w5 226 rfl rfl), List.forall_mem_cons.mpr ⟨(gb_w5 234 rfl rfl), List.forall_mem_cons.mpr ⟨(gb_w6 2 rfl rfl), List.forall_mem_cons.mpr ⟨(gb_w6 10 rfl rfl), List.forall_mem_cons.mpr ⟨(gb_w6 18 rfl rfl), List.forall_mem_cons.mpr ⟨(gb_w6 26 rfl rfl), List.forall_mem_cons.mpr ⟨(gb_w6 41 rfl rfl), List.forall_mem_cons.mpr ⟨(gb_w6 88 rfl rfl), List.forall_mem_cons.mpr ⟨(gb_w6 96 rfl rfl), List.forall_mem_cons.mpr ⟨(gb_w6 97 rfl rfl), List.forall_mem_cons.mpr ⟨(gb_w6 106 rfl rfl), List.forall_mem_cons.mpr ⟨(gb_w6 107 rfl rfl), List.forall_mem_cons.mpr ⟨(gb_w6 116 rfl rfl), List.forall_mem_cons.mpr ⟨(gb_w6 120 rfl rfl), List.forall_mem_cons.mpr ⟨(gb_w6 138 rfl rfl), List.forall_mem_cons.mpr ⟨(gb_w6 147 rfl rfl), List.forall_mem_cons.mpr ⟨(gb_w6 152 rfl rfl), List.forall_mem_cons.mpr ⟨(gb_w6 174 rfl rfl), List.forall_mem_cons.mpr ⟨(gb_w6 190 rfl rfl), List.forall_mem_cons.mpr ⟨(gb_w6 207 rfl rfl), List.forall_mem_cons.mpr ⟨(gb_w6 226 rfl rfl), List.forall_mem_cons.mpr ⟨(gb_w7 19 rfl rfl), fun _ h => nomatch h⟩⟩⟩⟩⟩⟩⟩⟩⟩⟩⟩⟩⟩⟩⟩⟩⟩⟩⟩⟩⟩⟩⟩⟩⟩⟩⟩⟩⟩⟩⟩⟩⟩⟩⟩⟩⟩⟩⟩⟩⟩⟩⟩⟩⟩⟩⟩⟩⟩⟩⟩⟩⟩⟩⟩⟩⟩⟩⟩⟩⟩⟩⟩), (fun _ h => nomatch h)⟩
def gb_flX12 : List (Nat × Nat × Nat) := [(7, 12, 0), (13, 12, 1), (16, 12, 2), (19, 12, 3), (22, 12, 4), (60, 12, 5), (45, 12, 6), (25, 12, 7), (28, 12, 8), (131, 12, 9), (134, 12, 10), (31, 12, 11), (201, 12, 12), (224, 12, 13), (221, 12, 14), (207, 12, 15), (233, 12, 16), (35, 12, 17), (39, 12, 18), (368, 12, 19)]
def gb_slX12 : List (Nat × Nat) := [(288, 38), (274, 39), (290, 40), (280, 41), (299, 42), (301, 43), (303, 44), (308, 45), (310, 46), (312, 47), (314, 48), (316, 49), (318, 50), (320, 51), (322, 52), (324, 53)]
def gb_nlX12 : List (Nat × Int32) := []
def gb_llX12 : List (Nat × Int32) := [(213, 97), (215, 122), (217, 48), (219, 57), (247, 100000000), (249, 10), (345, 9), (353, 6), (355, 2), (360, 3)]
def gb_tlX12 : List (Nat × Nat × Nat) := []
theorem gb_oX12 : gb_Own RX12 gb_flX12 gb_slX12 gb_nlX12 gb_llX12 gb_tlX12 := ⟨(List.forall_mem_cons.mpr ⟨(gb_fo_of gb_kl12 rfl (by decide) (gb_w7 38 rfl rfl)), List.forall_mem_cons.mpr ⟨(gb_fo_of gb_kl12 rfl (by decide) (gb_w7 39 rfl rfl)), List.forall_mem_cons.mpr ⟨(gb_fo_of gb_kl12 rfl (by decide) (gb_w7 40 rfl rfl)), List.forall_mem_cons.mpr ⟨(gb_fo_of gb_kl12 rfl (by decide) (gb_w7 41 rfl rfl)), List.forall_mem_cons.mpr ⟨(gb_fo_of gb_kl12 rfl (by decide) (gb_w7 42 rfl rfl)), List.forall_mem_cons.mpr ⟨(gb_fo_of gb_kl12 rfl (by decide) (gb_w7 43 rfl rfl)), List.forall_mem_cons.mpr ⟨(gb_fo_of gb_kl12 rfl (by decide) (gb_w7 44 rfl rfl)), List.forall_mem_cons.mpr ⟨(gb_fo_of gb_kl12 rfl (by decide) (gb_w7 45 rfl rfl)), List.forall_mem_cons.mpr ⟨(gb_fo_of gb_kl12 rfl (by decide) (gb_w7 46 rfl rfl)), List.forall_mem_cons.mpr ⟨(gb_fo_of gb_kl12 rfl (by decide) (gb_w7 47 rfl rfl)), List.forall_mem_cons.mpr ⟨(gb_fo_of gb_kl12 rfl (by decide) (gb_w7 48 rfl rfl)), List.forall_mem_cons.mpr ⟨(gb_fo_of gb_kl12 rfl (by decide) (gb_w7 49 rfl rfl)), List.forall_mem_cons.mpr ⟨(gb_fo_of gb_kl12 rfl (by decide) (gb_w7 50 rfl rfl)), List.forall_mem_cons.mpr ⟨(gb_fo_of gb_kl12 rfl (by decide) (gb_w7 51 rfl rfl)), List.forall_mem_cons.mpr ⟨(gb_fo_of gb_kl12 rfl (by decide) (gb_w7 52 rfl rfl)), List.forall_mem_cons.mpr ⟨(gb_fo_of gb_kl12 rfl (by decide) (gb_w7 53 rfl rfl)), List.forall_mem_cons.mpr ⟨(gb_fo_of gb_kl12 rfl (by decide) (gb_w7 54 rfl rfl)), List.forall_mem_cons.mpr ⟨(gb_fo_of gb_kl12 rfl (by decide) (gb_w7 55 rfl rfl)), List.forall_mem_cons.mpr ⟨(gb_fo_of gb_kl12 rfl (by decide) (gb_w7 56 rfl rfl)), List.forall_mem_cons.mpr ⟨(gb_fo_of gb_kl12 rfl (by decide) (gb_w7 57 rfl rfl)), fun _ h => nomatch h⟩⟩⟩⟩⟩⟩⟩⟩⟩⟩⟩⟩⟩⟩⟩⟩⟩⟩⟩⟩), (List.forall_mem_cons.mpr ⟨⟨_, List.mem_of_getElem? (i := 38) rfl⟩, List.forall_mem_cons.mpr ⟨⟨_, List.mem_of_getElem? (i := 39) rfl⟩, List.forall_mem_cons.mpr ⟨⟨_, List.mem_of_getElem? (i := 40) rfl⟩, List.forall_mem_cons.mpr ⟨⟨_, List.mem_of_getElem? (i := 41) rfl⟩, List.forall_mem_cons.mpr ⟨⟨_, List.mem_of_getElem? (i := 42) rfl⟩, List.forall_mem_cons.mpr ⟨⟨_, List.mem_of_getElem? (i := 43) rfl⟩, List.forall_mem_cons.mpr ⟨⟨_, List.mem_of_getElem? (i := 44) rfl⟩, List.forall_mem_cons.mpr ⟨⟨_, List.mem_of_getElem? (i := 45) rfl⟩, List.forall_mem_cons.mpr ⟨⟨_, List.mem_of_getElem? (i := 46) rfl⟩, List.forall_mem_cons.mpr ⟨⟨_, List.mem_of_getElem? (i := 47) rfl⟩, List.forall_mem_cons.mpr ⟨⟨_, List.mem_of_getElem? (i := 48) rfl⟩, List.forall_mem_cons.mpr ⟨⟨_, List.mem_of_getElem? (i := 49) rfl⟩, List.forall_mem_cons.mpr ⟨⟨_, List.mem_of_getElem? (i := 50) rfl⟩, List.forall_mem_cons.mpr ⟨⟨_, List.mem_of_getElem? (i := 51) rfl⟩, List.forall_mem_cons.mpr ⟨⟨_, List.mem_of_getElem? (i := 52) rfl⟩, List.forall_mem_cons.mpr ⟨⟨_, List.mem_of_getElem? (i := 53) rfl⟩, fun _ h => nomatch h⟩⟩⟩⟩⟩⟩⟩⟩⟩⟩⟩⟩⟩⟩⟩⟩), (fun _ h => nomatch h), (List.forall_mem_cons.mpr ⟨(gb_w8 108 rfl rfl), List.forall_mem_cons.mpr ⟨(gb_w8 109 rfl rfl), List.forall_mem_cons.mpr ⟨(gb_w8 114 rfl rfl), List.forall_mem_cons.mpr ⟨(gb_w8 115 rfl rfl), List.forall_mem_cons.mpr ⟨(gb_w8 147 rfl rfl), List.forall_mem_cons.mpr ⟨(gb_w8 148 rfl rfl), List.forall_mem_cons.mpr ⟨(gb_w9 28 rfl rfl), List.forall_mem_cons.mpr ⟨(gb_w9 45 rfl rfl), List.forall_mem_cons.mpr ⟨(gb_w9 54 rfl rfl), List.forall_mem_cons.mpr ⟨(gb_w9 79 rfl rfl), fun _ h => nomatch h⟩⟩⟩⟩⟩⟩⟩⟩⟩⟩), ((fun _ h => nomatch h))⟩
def gb_lkX12 : List (Nat × Nat) := [(42, 74), (56, 73), (70, 8), (146, 154), (48, 10), (149, 158), (152, 173), (156, 174), (63, 125), (67, 126), (159, 165), (91, 138), (137, 160), (163, 129), (166, 157), (82, 145), (74, 130), (101, 139), (94, 69), (104, 143), (107, 137), (78, 132), (111, 148), (85, 146), (88, 147), (169, 164), (173, 156), (114, 155), (140, 153), (127, 152), (127, 151), (127, 150), (127, 149), (124, 144), (143, 162), (176, 163), (179, 142), (117, 141), (182, 161), (186, 135), (52, 134), (189, 140), (121, 136), (192, 131), (195, 133), (198, 190), (98, 189), (204, 7), (285, 59), (244, 58), (210, 55), (227, 56), (230, 57), (276, 63), (264, 60), (236, 4), (240, 5), (251, 62), (261, 61), (271, 66), (258, 65), (254, 64), (292, 68), (268, 67), (296, 70), (305, 72), (282, 71), (338, 167), (326, 127), (329, 128), (332, 159), (335, 166), (341, 200), (347, 208), (350, 207), (357, 215), (362, 221), (365, 225), (374, 238), (371, 237)]
def gb_lnX12 : List (Nat × Nat) := []
set_option maxRecDepth 100000 in
theorem gb_nX12 : gb_Ln RX12 gb_lkX12 gb_lnX12 := ⟨(List.forall_mem_cons.mpr ⟨(gb_w7 30 rfl rfl), List.forall_mem_cons.mpr ⟨(gb_w7 34 rfl rfl), List.forall_mem_cons.mpr ⟨(gb_w7 107 rfl rfl), List.forall_mem_cons.mpr ⟨(gb_w7 119 rfl rfl), List.forall_mem_cons.mpr ⟨(gb_w7 123 rfl rfl), List.forall_mem_cons.mpr ⟨(gb_w7 126 rfl rfl), List.forall_mem_cons.mpr ⟨(gb_w7 130 rfl rfl), List.forall_mem_cons.mpr ⟨(gb_w7 134 rfl rfl), List.forall_mem_cons.mpr ⟨(gb_w7 138 rfl rfl), List.forall_mem_cons.mpr ⟨(gb_w7 141 rfl rfl), List.forall_mem_cons.mpr ⟨(gb_w7 145 rfl rfl), List.forall_mem_cons.mpr ⟨(gb_w7 149 rfl rfl), List.forall_mem_cons.mpr ⟨(gb_w7 153 rfl rfl), List.forall_mem_cons.mpr ⟨(gb_w7 161 rfl rfl), List.forall_mem_cons.mpr ⟨(gb_w7 165 rfl rfl), List.forall_mem_cons.mpr ⟨(gb_w7 169 rfl rfl), List.forall_mem_cons.mpr ⟨(gb_w7 173 rfl rfl), List.forall_mem_cons.mpr ⟨(gb_w7 177 rfl rfl), List.forall_mem_cons.mpr ⟨(gb_w7 181 rfl rfl), List.forall_mem_cons.mpr ⟨(gb_w7 184 rfl rfl), List.forall_mem_cons.mpr ⟨(gb_w7 188 rfl rfl), List.forall_mem_cons.mpr ⟨(gb_w7 192 rfl rfl), List.forall_mem_cons.mpr ⟨(gb_w7 196 rfl rfl), List.forall_mem_cons.mpr ⟨(gb_w7 200 rfl rfl), List.forall_mem_cons.mpr ⟨(gb_w7 204 rfl rfl), List.forall_mem_cons.mpr ⟨(gb_w7 208 rfl rfl), List.forall_mem_cons.mpr ⟨(gb_w7 216 rfl rfl), List.forall_mem_cons.mpr ⟨(gb_w7 220 rfl rfl), List.forall_mem_cons.mpr ⟨(gb_w7 228 rfl rfl), List.forall_mem_cons.mpr ⟨(gb_w7 232 rfl rfl), List.forall_mem_cons.mpr ⟨(gb_w7 232 rfl rfl), List.forall_mem_cons.mpr ⟨(gb_w7 232 rfl rfl), List.forall_mem_cons.mpr ⟨(gb_w7 232 rfl rfl), List.forall_mem_cons.mpr ⟨(gb_w7 236 rfl rfl), List.forall_mem_cons.mpr ⟨(gb_w8 0 rfl rfl), List.forall_mem_cons.mpr ⟨(gb_w8 8 rfl rfl), List.forall_mem_cons.mpr ⟨(gb_w8 16 rfl rfl), List.forall_mem_cons.mpr ⟨(gb_w8 20 rfl rfl), List.forall_mem_cons.mpr ⟨(gb_w8 24 rfl rfl), List.forall_mem_cons.mpr ⟨(gb_w8 32 rfl rfl), List.forall_mem_cons.mpr ⟨(gb_w8 36 rfl rfl), List.forall_mem_cons.mpr ⟨(gb_w8 40 rfl rfl), List.forall_mem_cons.mpr ⟨(gb_w8 44 rfl rfl), List.forall_mem_cons.mpr ⟨(gb_w8 52 rfl rfl), List.forall_mem_cons.mpr ⟨(gb_w8 56 rfl rfl), List.forall_mem_cons.mpr ⟨(gb_w8 68 rfl rfl), List.forall_mem_cons.mpr ⟨(gb_w8 72 rfl rfl), List.forall_mem_cons.mpr ⟨(gb_w8 80 rfl rfl), List.forall_mem_cons.mpr ⟨(gb_w8 92 rfl rfl), List.forall_mem_cons.mpr ⟨(gb_w8 96 rfl rfl), List.forall_mem_cons.mpr ⟨(gb_w8 100 rfl rfl), List.forall_mem_cons.mpr ⟨(gb_w8 104 rfl rfl), List.forall_mem_cons.mpr ⟨(gb_w8 110 rfl rfl), List.forall_mem_cons.mpr ⟨(gb_w8 117 rfl rfl), List.forall_mem_cons.mpr ⟨(gb_w8 121 rfl rfl), List.forall_mem_cons.mpr ⟨(gb_w8 125 rfl rfl), List.forall_mem_cons.mpr ⟨(gb_w8 126 rfl rfl), List.forall_mem_cons.mpr ⟨(gb_w8 127 rfl rfl), List.forall_mem_cons.mpr ⟨(gb_w8 131 rfl rfl), List.forall_mem_cons.mpr ⟨(gb_w8 135 rfl rfl), List.forall_mem_cons.mpr ⟨(gb_w8 139 rfl rfl), List.forall_mem_cons.mpr ⟨(gb_w8 143 rfl rfl), List.forall_mem_cons.mpr ⟨(gb_w8 151 rfl rfl), List.forall_mem_cons.mpr ⟨(gb_w8 155 rfl rfl), List.forall_mem_cons.mpr ⟨(gb_w8 159 rfl rfl), List.forall_mem_cons.mpr ⟨(gb_w8 167 rfl rfl), List.forall_mem_cons.mpr ⟨(gb_w8 171 rfl rfl), List.forall_mem_cons.mpr ⟨(gb_w8 187 rfl rfl), List.forall_mem_cons.mpr ⟨(gb_w8 191 rfl rfl), List.forall_mem_cons.mpr ⟨(gb_w8 204 rfl rfl), List.forall_mem_cons.mpr ⟨(gb_w8 208 rfl rfl), List.forall_mem_cons.mpr ⟨(gb_w8 212 rfl rfl), List.forall_mem_cons.mpr ⟨(gb_w9 12 rfl rfl), List.forall_mem_cons.mpr ⟨(gb_w9 29 rfl rfl), List.forall_mem_cons.mpr ⟨(gb_w9 33 rfl rfl), List.forall_mem_cons.mpr ⟨(gb_w9 59 rfl rfl), List.forall_mem_cons.mpr ⟨(gb_w9 84 rfl rfl), List.forall_mem_cons.mpr ⟨(gb_w9 96 rfl rfl), List.forall_mem_cons.mpr ⟨(gb_w9 116 rfl rfl), List.forall_mem_cons.mpr ⟨(gb_w9 120 rfl rfl), fun _ h => nomatch h⟩⟩⟩⟩⟩⟩⟩⟩⟩⟩⟩⟩⟩⟩⟩⟩⟩⟩⟩⟩⟩⟩⟩⟩⟩⟩⟩⟩⟩⟩⟩⟩⟩⟩⟩⟩⟩⟩⟩⟩⟩⟩⟩⟩⟩⟩⟩⟩⟩⟩⟩⟩⟩⟩⟩⟩⟩⟩⟩⟩⟩⟩⟩⟩⟩⟩⟩⟩⟩⟩⟩⟩⟩⟩⟩⟩⟩⟩⟩⟩), (fun _ h => nomatch h)⟩
end GB8
end
