/-! ===== the methods by number; what the tables say of them and of the constant pools ===== -/
def gb_tabA : List (MethodName × ByteArray × Nat × Option FieldType × Nat × Nat × Nat × Nat) := [
  (yX6_at, cX6_at, 2, (some .int), 0, 0, 1, 6),
  (yX6_put, cX6_put, 3, none, 0, 0, 2, 6),
  (yX6_become, cX6_become, 3, none, 1, 0, 1, 6),
  (yJ0_length_8abf5, cJ0_length_8abf5, 1, (some .int), 2, 2, 0, 99),
  (yJ0_charAt_5068e, cJ0_charAt_5068e, 2, (some .char), 4, 2, 1, 99),
  (yX10_append, cX10_append, 3, none, 1, 0, 1, 10),
  (yX12_bring, cX12_bring, 3, none, 0, 0, 1, 12),
  (yX12_no, cX12_no, 2, (some .int), 0, 0, 1, 12),
  (yX12_appendText, cX12_appendText, 6, (some .int), 1, 0, 5, 12),
  (yX12_in, cX12_in, 6, (some .boolean), 0, 1, 3, 12),
  (yX12_truncateText, cX12_truncateText, 2, (some .int), 1, 0, 1, 12),
  (yX7_becomeEmpty, cX7_becomeEmpty, 1, none, 0, 0, 0, 7),
  (yX10_afterBlanks, cX10_afterBlanks, 3, (some .int), 1, 0, 1, 10),
  (yX10_isLetter, cX10_isLetter, 1, (some .boolean), 0, 1, 1, 10),
  (yX10_isDigit, cX10_isDigit, 1, (some .boolean), 0, 1, 1, 10),
  (yJ9_min_7cf53, cJ9_min_7cf53, 2, (some .int), 0, 1, 2, 99),
  (yX10_afterDigits, cX10_afterDigits, 3, (some .int), 1, 0, 1, 10),
  (yX10_afterLetters, cX10_afterLetters, 3, (some .int), 1, 0, 1, 10),
  (yX10_next, cX10_next, 2, none, 2, 0, 0, 10),
  (yX10_begin, cX10_begin, 1, none, 3, 0, 0, 10),
  (yX10_isWord, cX10_isWord, 3, (some .boolean), 5, 0, 1, 10),
  (yX10_fail, cX10_fail, 3, (some .boolean), 0, 0, 2, 10),
  (yX8_fail, cX8_fail, 2, (some .boolean), 1, 0, 1, 8),
  (yX8_takeWord, cX8_takeWord, 2, (some .boolean), 6, 0, 1, 8),
  (yX8_checkNumber, cX8_checkNumber, 3, (some .boolean), 2, 0, 2, 8),
  (yX8_takeNumber, cX8_takeNumber, 2, (some .int), 3, 0, 0, 8),
  (yX8_takeSemicolon, cX8_takeSemicolon, 1, (some .boolean), 3, 0, 0, 8),
  (yX8_readGrid, cX8_readGrid, 1, (some .boolean), 7, 0, 0, 8),
  (yX7_addSubject, cX7_addSubject, 2, none, 1, 0, 1, 7),
  (yX8_readSubjects, cX8_readSubjects, 2, (some .boolean), 7, 0, 0, 8),
  (yX7_addTeacher, cX7_addTeacher, 3, none, 1, 0, 2, 7),
  (yX11_hasBit, cX11_hasBit, 2, (some .boolean), 0, 1, 2, 11),
  (yX8_readTeacher, cX8_readTeacher, 4, (some .boolean), 4, 0, 0, 8),
  (yX8_readTeachers, cX8_readTeachers, 2, (some .boolean), 7, 0, 0, 8),
  (yX7_addRoom, cX7_addRoom, 2, none, 1, 0, 1, 7),
  (yX8_readRooms, cX8_readRooms, 2, (some .boolean), 7, 0, 0, 8),
  (yX8_readClasses, cX8_readClasses, 1, (some .boolean), 7, 0, 0, 8),
  (yX7_slots, cX7_slots, 1, (some .int), 0, 0, 0, 7),
  (yX7_isTakenAtFirst, cX7_isTakenAtFirst, 5, (some .boolean), 1, 0, 3, 7),
  (yX8_checkUntaken, cX8_checkUntaken, 4, (some .boolean), 3, 0, 3, 8),
  (yX7_hasTeacher, cX7_hasTeacher, 2, (some .boolean), 0, 0, 1, 7),
  (yX7_isQualified, cX7_isQualified, 3, (some .boolean), 1, 0, 2, 7),
  (yX7_addLesson, cX7_addLesson, 6, none, 1, 0, 5, 7),
  (yX8_readLesson, cX8_readLesson, 5, (some .boolean), 4, 0, 0, 8),
  (yX8_readLessons, cX8_readLessons, 2, (some .boolean), 6, 0, 0, 8),
  (yX8_read, cX8_read, 1, (some .boolean), 8, 0, 0, 8),
  (yX7_become, cX7_become, 2, none, 2, 0, 1, 7),
  (yX7_dayOf, cX7_dayOf, 2, (some .int), 0, 0, 1, 7),
  (yX3_isAway, cX3_isAway, 3, (some .boolean), 1, 0, 2, 3),
  (yX3_isAwayAt, cX3_isAwayAt, 3, (some .boolean), 2, 0, 2, 3),
  (yX3_returnToFirst, cX3_returnToFirst, 4, none, 3, 0, 0, 3),
  (yX3_begin, cX3_begin, 2, none, 4, 0, 0, 3),
  (yX1_forget, cX1_forget, 1, none, 0, 0, 0, 1),
  (yX11_parseSchool, cX11_parseSchool, 2, (some .int), 9, 0, 0, 11),
  (yX12_byteAt, cX12_byteAt, 2, (some .int), 0, 0, 1, 12),
  (yX12_isLetterAt, cX12_isLetterAt, 2, (some .boolean), 1, 0, 1, 12),
  (yX12_isDigitAt, cX12_isDigitAt, 2, (some .boolean), 1, 0, 1, 12),
  (yX12_next, cX12_next, 1, none, 2, 0, 0, 12),
  (yX12_begin, cX12_begin, 1, none, 3, 0, 0, 12),
  (yX12_isWord, cX12_isWord, 4, (some .boolean), 5, 0, 1, 12),
  (yX12_goOn, cX12_goOn, 1, none, 3, 0, 0, 12),
  (yX12_wrong, cX12_wrong, 2, none, 0, 0, 1, 12),
  (yX12_must, cX12_must, 2, none, 6, 0, 1, 12),
  (yX12_digits, cX12_digits, 4, (some .long), 1, 0, 0, 12),
  (yX12_see, cX12_see, 3, (some .int), 2, 0, 2, 12),
  (yX12_number, cX12_number, 4, (some .int), 4, 0, 2, 12),
  (yX12_opensThing, cX12_opensThing, 3, (some .boolean), 4, 0, 2, 12),
  (yX12_readKinds, cX12_readKinds, 6, none, 7, 0, 4, 12),
  (yX12_has, cX12_has, 2, (some .boolean), 0, 1, 2, 12),
  (yX12_readTeachers, cX12_readTeachers, 4, none, 7, 0, 0, 12),
  (yX12_isThere, cX12_isThere, 6, (some .boolean), 0, 0, 3, 12),
  (yX12_readLesson, cX12_readLesson, 7, none, 7, 0, 0, 12),
  (yX12_firstly, cX12_firstly, 2, none, 0, 0, 1, 12),
  (yX12_beginAnew, cX12_beginAnew, 2, none, 1, 0, 0, 12),
  (yX12_parseSchool, cX12_parseSchool, 2, (some .int), 8, 0, 0, 12),
  (yX1_baseOf, cX1_baseOf, 2, (some .int), 0, 0, 1, 1),
  (yX1_mark, cX1_mark, 3, none, 1, 0, 0, 1),
  (yX1_keepMarked, cX1_keepMarked, 1, none, 0, 0, 0, 1),
  (yX1_restoreMarked, cX1_restoreMarked, 3, none, 1, 0, 0, 1),
  (yX9_wordOf, cX9_wordOf, 1, (some (.object "java/lang/String"), 0, 1, 1, 9),
  (yX9_findStep, cX9_findStep, 2, (some .int), 6, 0, 0, 9),
  (yX9_numbersOf, cX9_numbersOf, 1, (some .int), 0, 1, 1, 9),
  (yX9_readStep, cX9_readStep, 3, (some .boolean), 7, 0, 0, 9),
  (yX7_hasDay, cX7_hasDay, 2, (some .boolean), 0, 0, 1, 7),
  (yX3_makeOpen, cX3_makeOpen, 2, none, 1, 0, 1, 3),
  (yX2_letBeAbsent, cX2_letBeAbsent, 7, (some .int), 2, 0, 3, 2),
  (yX7_hasLesson, cX7_hasLesson, 2, (some .boolean), 0, 0, 1, 7),
  (yX3_isOpen, cX3_isOpen, 2, (some .boolean), 1, 0, 1, 3),
  (yX2_openAgain, cX2_openAgain, 2, (some .boolean), 2, 0, 1, 2),
  (yX0_presentAt, cX0_presentAt, 5, (some .int), 2, 0, 1, 0),
  (yX3_isTaught, cX3_isTaught, 2, (some .boolean), 1, 0, 1, 3),
  (yX7_qualifiedFor, cX7_qualifiedFor, 4, (some .int), 1, 0, 1, 7),
  (yX0_busyAt, cX0_busyAt, 5, (some .int), 2, 0, 2, 0),
  (yX3_loadOf, cX3_loadOf, 4, (some .int), 1, 0, 1, 3),
  (yX0_leastLoaded, cX0_leastLoaded, 6, (some .int), 2, 0, 1, 0),
  (yX0_successorsOf, cX0_successorsOf, 4, (some .int), 1, 0, 1, 0),
  (yX0_thoseBefore, cX0_thoseBefore, 5, (some .int), 1, 0, 2, 0),
  (yX0_lowest, cX0_lowest, 3, (some .int), 1, 0, 1, 0),
  (yX0_choose, cX0_choose, 5, none, 2, 0, 1, 0),
  (yX0_find, cX0_find, 8, (some .int), 3, 0, 1, 0),
  (yX3_lessonAt, cX3_lessonAt, 5, (some .int), 1, 0, 3, 3),
  (yX3_letTeach, cX3_letTeach, 3, none, 1, 0, 2, 3),
  (yX2_repairByChain, cX2_repairByChain, 8, (some .boolean), 4, 0, 1, 2),
  (yX7_hasRoom, cX7_hasRoom, 2, (some .boolean), 0, 0, 1, 7),
  (yX4_againstRoom, cX4_againstRoom, 3, (some .int), 2, 0, 2, 4),
  (yX2_moveToRoom, cX2_moveToRoom, 3, (some .boolean), 3, 0, 2, 2),
  (yX7_hasSlot, cX7_hasSlot, 2, (some .boolean), 1, 0, 1, 7),
  (yX4_isBusy, cX4_isBusy, 3, (some .boolean), 2, 0, 2, 4),
  (yX4_isTeacherAwayAt, cX4_isTeacherAwayAt, 3, (some .boolean), 3, 0, 2, 4),
  (yX4_againstMove, cX4_againstMove, 3, (some .int), 4, 0, 2, 4),
  (yX2_moveToSlot, cX2_moveToSlot, 3, (some .boolean), 5, 0, 2, 2),
  (yX4_isHeldByThird, cX4_isHeldByThird, 5, (some .boolean), 2, 0, 3, 4),
  (yX4_againstExchange, cX4_againstExchange, 3, (some .int), 4, 0, 2, 4),
  (yX2_swapSlots, cX2_swapSlots, 4, (some .boolean), 5, 0, 2, 2),
  (yX3_isSupervised, cX3_isSupervised, 2, (some .boolean), 1, 0, 1, 3),
  (yX3_dutiesOn, cX3_dutiesOn, 5, (some .int), 2, 0, 2, 3),
  (yX4_againstSupervision, cX4_againstSupervision, 4, (some .int), 3, 0, 2, 4),
  (yX3_letWatch, cX3_letWatch, 3, none, 1, 0, 2, 3),
  (yX2_letSupervise, cX2_letSupervise, 3, (some .boolean), 4, 0, 2, 2),
  (yX4_againstCover, cX4_againstCover, 4, (some .int), 3, 0, 2, 4),
  (yX2_letCover, cX2_letCover, 3, (some .boolean), 4, 0, 2, 2),
  (yX2_repairOpenLessons, cX2_repairOpenLessons, 3, (some .int), 5, 0, 0, 2),
  (yX2_perform, cX2_perform, 4, (some .boolean), 6, 0, 3, 2),
  (yX11_runScript, cX11_runScript, 4, (some .int), 8, 0, 0, 11),
  (yX12_copyRow, cX12_copyRow, 3, none, 0, 1, 2, 12),
  (yX12_push, cX12_push, 2, none, 0, 0, 0, 12),
  (yX12_stepHere, cX12_stepHere, 1, (some .int), 6, 0, 0, 12),
  (yX12_figure, cX12_figure, 2, (some .int), 4, 0, 0, 12),
  (yX12_isLesson, cX12_isLesson, 2, (some .boolean), 1, 0, 1, 12),
  (yX12_isOpen, cX12_isOpen, 2, (some .boolean), 0, 0, 1, 12),
  (yX12_isRoom, cX12_isRoom, 2, (some .boolean), 1, 0, 1, 12),
  (yX12_lessonWith, cX12_lessonWith, 7, (some .int), 0, 0, 5, 12),
  (yX12_reasonForRoom, cX12_reasonForRoom, 3, (some .int), 1, 0, 2, 12),
  (yX12_slots, cX12_slots, 1, (some .int), 0, 0, 0, 12),
  (yX12_isSlot, cX12_isSlot, 2, (some .boolean), 1, 0, 1, 12),
  (yX12_ofClass, cX12_ofClass, 4, (some .int), 0, 0, 2, 12),
  (yX12_ofTeacher, cX12_ofTeacher, 3, (some .int), 1, 0, 2, 12),
  (yX12_dayOf, cX12_dayOf, 2, (some .int), 0, 0, 1, 12),
  (yX12_isAbsent, cX12_isAbsent, 3, (some .boolean), 1, 0, 2, 12),
  (yX12_reasonToMove, cX12_reasonToMove, 4, (some .int), 2, 0, 2, 12),
  (yX12_isElsewhere, cX12_isElsewhere, 4, (some .boolean), 1, 0, 3, 12),
  (yX12_reasonToExchange, cX12_reasonToExchange, 3, (some .int), 2, 0, 2, 12),
  (yX12_isQualified, cX12_isQualified, 3, (some .boolean), 1, 0, 2, 12),
  (yX12_isOnWay, cX12_isOnWay, 5, (some .boolean), 0, 0, 2, 12),
  (yX12_isTaught, cX12_isTaught, 2, (some .boolean), 1, 0, 1, 12),
  (yX12_taughtBy, cX12_taughtBy, 4, (some .int), 2, 0, 1, 12),
  (yX12_firstBy, cX12_firstBy, 4, (some .int), 0, 0, 1, 12),
  (yX12_loadOf, cX12_loadOf, 2, (some .int), 3, 0, 1, 12),
  (yX12_goes, cX12_goes, 9, none, 4, 0, 4, 12),
  (yX12_goes, cX12_goes, 9, none, 5, 0, 4, 12),
  (yX12_goes, cX12_goes, 9, none, 6, 0, 4, 12),
  (yX12_goes, cX12_goes, 9, none, 7, 0, 4, 12),
  (yX12_findChain, cX12_findChain, 3, (some .int), 8, 0, 1, 12),
  (yX12_isTeacher, cX12_isTeacher, 2, (some .boolean), 1, 0, 1, 12),
  (yX12_dutiesOf, cX12_dutiesOf, 6, (some .int), 1, 0, 2, 12),
  (yX12_reasonToWatch, cX12_reasonToWatch, 4, (some .int), 2, 0, 2, 12),
  (yX12_reasonToCover, cX12_reasonToCover, 4, (some .int), 4, 0, 2, 12),
  (yX12_isDay, cX12_isDay, 2, (some .boolean), 1, 0, 1, 12),
  (yX12_canStep, cX12_canStep, 4, (some .boolean), 9, 0, 3, 12),
  (yX12_opens, cX12_opens, 2, none, 0, 0, 1, 12),
  (yX12_swaps, cX12_swaps, 4, none, 0, 0, 2, 12),
  (yX12_chains, cX12_chains, 6, none, 2, 0, 1, 12),
  (yX12_repairsAll, cX12_repairsAll, 3, (some .int), 9, 0, 0, 12),
  (yX12_gives, cX12_gives, 4, none, 0, 0, 3, 12),
  (yX12_absents, cX12_absents, 7, (some .int), 1, 0, 3, 12),
  (yX12_doStep, cX12_doStep, 4, none, 10, 0, 3, 12),
  (yX12_goesThrough, cX12_goesThrough, 6, none, 11, 0, 0, 12),
  (yX12_runScript, cX12_runScript, 2, (some .int), 12, 0, 0, 12),
  (yX11_errorCode, cX11_errorCode, 1, (some .int), 0, 0, 0, 11),
  (yX12_errorCode, cX12_errorCode, 1, (some .int), 0, 0, 0, 12),
  (yX11_errorPosition, cX11_errorPosition, 1, (some .int), 0, 0, 0, 11),
  (yX12_errorPosition, cX12_errorPosition, 1, (some .int), 0, 0, 0, 12),
  (yX12_fails, cX12_fails, 3, (some .boolean), 0, 0, 2, 12),
  (yX12_remember, cX12_remember, 1, none, 1, 0, 0, 12),
  (yX12_setAbsent, cX12_setAbsent, 4, (some .int), 2, 0, 3, 12),
  (yX12_cover, cX12_cover, 3, (some .int), 5, 0, 2, 12),
  (yX3_dutiesOf, cX3_dutiesOf, 4, (some .int), 2, 0, 1, 3),
  (yX12_supervise, cX12_supervise, 3, (some .int), 3, 0, 2, 12),
  (yX12_repair, cX12_repair, 2, (some .int), 9, 0, 1, 12),
  (yX11_repairAll, cX11_repairAll, 2, (some .int), 6, 0, 0, 11),
  (yX12_repairAll, cX12_repairAll, 1, (some .int), 10, 0, 0, 12),
  (yX12_exchange, cX12_exchange, 3, (some .int), 3, 0, 2, 12),
  (yX12_move, cX12_move, 4, (some .int), 3, 0, 2, 12),
  (yX12_setRoom, cX12_setRoom, 4, (some .int), 2, 0, 2, 12),
  (yX12_reopen, cX12_reopen, 3, (some .int), 2, 0, 1, 12),
  (yX3_differs, cX3_differs, 2, (some .boolean), 2, 0, 1, 3),
  (yX3_differingLessons, cX3_differingLessons, 3, (some .int), 3, 0, 0, 3),
  (yX11_reset, cX11_reset, 2, (some .int), 4, 0, 0, 11),
  (yX12_differs, cX12_differs, 2, (some .boolean), 0, 0, 1, 12),
  (yX12_differences, cX12_differences, 3, (some .int), 1, 0, 0, 12),
  (yX12_reset, cX12_reset, 3, (some .int), 2, 0, 0, 12),
  (yX12_whyNotCover, cX12_whyNotCover, 3, (some .int), 5, 0, 2, 12),
  (yX12_whyNotSupervise, cX12_whyNotSupervise, 3, (some .int), 3, 0, 2, 12),
  (yX12_whyNotExchange, cX12_whyNotExchange, 3, (some .int), 3, 0, 2, 12),
  (yX12_whyNotMove, cX12_whyNotMove, 3, (some .int), 3, 0, 2, 12),
  (yX12_whyNotRoom, cX12_whyNotRoom, 3, (some .int), 2, 0, 2, 12),
  (yX12_candidates, cX12_candidates, 4, (some .int), 5, 0, 1, 12),
  (yX12_chain, cX12_chain, 2, (some .int), 9, 0, 1, 12),
  (yX12_chainTeacher, cX12_chainTeacher, 3, (some .int), 9, 0, 2, 12),
  (yX12_partnerOf, cX12_partnerOf, 5, (some .int), 3, 0, 2, 12),
  (yX12_partners, cX12_partners, 2, (some .int), 4, 0, 1, 12),
  (yX12_firstPartner, cX12_firstPartner, 3, (some .int), 4, 0, 1, 12),
  (yX12_slotsFor, cX12_slotsFor, 4, (some .int), 3, 0, 1, 12),
  (yX7_lessonsWith, cX7_lessonsWith, 5, (some .int), 1, 0, 2, 7),
  (yX3_supervisedLessons, cX3_supervisedLessons, 1, (some .int), 2, 0, 0, 3),
  (yX3_openLessons, cX3_openLessons, 1, (some .int), 2, 0, 0, 3),
  (yX12_watchedMany, cX12_watchedMany, 3, (some .int), 0, 0, 0, 12),
  (yX12_openMany, cX12_openMany, 3, (some .int), 1, 0, 0, 12),
  (yX12_count, cX12_count, 2, (some .int), 2, 0, 1, 12),
  (yX12_lesson, cX12_lesson, 3, (some .int), 2, 0, 2, 12),
  (yX3_taughtBy, cX3_taughtBy, 4, (some .int), 1, 0, 1, 3),
  (yX12_teacher, cX12_teacher, 3, (some .int), 4, 0, 2, 12),
  (yX12_room, cX12_room, 5, (some .int), 2, 0, 2, 12),
  (yX12_subject, cX12_subject, 6, (some .int), 1, 0, 2, 12),
  (yX12_isClass, cX12_isClass, 2, (some .boolean), 1, 0, 1, 12),
  (yX12_lessonOfClass, cX12_lessonOfClass, 3, (some .int), 2, 0, 2, 12),
  (yX12_lessonOfTeacher, cX12_lessonOfTeacher, 3, (some .int), 2, 0, 2, 12),
  (yX12_lessonInRoom, cX12_lessonInRoom, 3, (some .int), 2, 0, 2, 12),
  (yX12_freeTeachers, cX12_freeTeachers, 4, (some .int), 2, 0, 1, 12),
  (yX12_freeRooms, cX12_freeRooms, 5, (some .int), 2, 0, 2, 12),
  (yX12_lessonAt, cX12_lessonAt, 5, (some .int), 1, 0, 2, 12),
  (yX12_openLesson, cX12_openLesson, 3, (some .int), 2, 0, 1, 12),
  (yX12_difference, cX12_difference, 3, (some .int), 2, 0, 1, 12),
  (yX3_windowsOf, cX3_windowsOf, 8, (some .int), 2, 0, 3, 3),
  (yX12_gapsIn, cX12_gapsIn, 4, (some .int), 1, 0, 1, 12),
  (yX12_windows, cX12_windows, 5, (some .int), 2, 0, 2, 12),
  (yX12_classWindows, cX12_classWindows, 5, (some .int), 2, 0, 2, 12),
  (yJ9_max_7cf53, cJ9_max_7cf53, 2, (some .int), 0, 1, 2, 99),
  (yX11_spread, cX11_spread, 6, (some .int), 2, 0, 0, 11),
  (yX12_spread, cX12_spread, 4, (some .int), 4, 0, 0, 12),
  (yX3_taughtLessons, cX3_taughtLessons, 1, (some .int), 3, 0, 0, 3),
  (yX11_taughtShare, cX11_taughtShare, 1, (some .double), 4, 0, 0, 11),
  (yX12_taughtShare, cX12_taughtShare, 2, (some .double), 2, 0, 0, 12),
  (yX5_append, cX5_append, 2, none, 1, 0, 1, 5),
  (yX5_writeLesson, cX5_writeLesson, 2, none, 2, 0, 1, 5),
  (yX5_write, cX5_write, 4, none, 3, 0, 1, 5),
  (yX12_print, cX12_print, 2, none, 0, 0, 1, 12),
  (yX12_printLesson, cX12_printLesson, 2, none, 1, 0, 1, 12),
  (yX12_writeReport, cX12_writeReport, 3, (some .int), 2, 0, 1, 12),
  (yX12_reportByte, cX12_reportByte, 2, (some .int), 1, 0, 1, 12),
  (yX1_restoreLatest, cX1_restoreLatest, 1, none, 2, 0, 0, 1),
  (yX12_undo, cX12_undo, 2, (some .int), 1, 0, 0, 12),
  (yX11_undoDepth, cX11_undoDepth, 1, (some .int), 0, 0, 0, 11),
  (yX12_undoDepth, cX12_undoDepth, 1, (some .int), 0, 0, 0, 12),
  (yX12_thrown, cX12_thrown, 1, (some .int), 0, 0, 0, 12),
  (yX7_becomeSample, cX7_becomeSample, 1, none, 2, 0, 0, 7)]
def gb_tabB : List (MethodName × ByteArray × Nat × Option FieldType × Nat × Nat × Nat × Nat) := [
  (yX11_appendText, cX11_appendText, 6, (some .int), 2, 0, 5, 11),
  (yX11_truncateText, cX11_truncateText, 2, (some .int), 0, 0, 1, 11),
  (yX11_requireTeacher, cX11_requireTeacher, 2, none, 1, 0, 1, 11),
  (yX11_requireDay, cX11_requireDay, 2, none, 1, 0, 1, 11),
  (yX11_setAbsent, cX11_setAbsent, 5, (some .int), 3, 0, 3, 11),
  (yX11_requireLesson, cX11_requireLesson, 2, none, 1, 0, 1, 11),
  (yX11_keepUnlessRefused, cX11_keepUnlessRefused, 2, none, 1, 0, 1, 11),
  (yX11_cover, cX11_cover, 3, (some .int), 5, 0, 2, 11),
  (yX11_supervise, cX11_supervise, 3, (some .int), 5, 0, 2, 11),
  (yX11_repair, cX11_repair, 2, (some .int), 5, 0, 1, 11),
  (yX11_exchange, cX11_exchange, 3, (some .int), 6, 0, 2, 11),
  (yX11_requireSlot, cX11_requireSlot, 2, none, 2, 0, 1, 11),
  (yX11_move, cX11_move, 4, (some .int), 6, 0, 2, 11),
  (yX11_requireRoom, cX11_requireRoom, 2, none, 1, 0, 1, 11),
  (yX11_setRoom, cX11_setRoom, 4, (some .int), 4, 0, 2, 11),
  (yX11_reopen, cX11_reopen, 3, (some .int), 3, 0, 1, 11),
  (yX11_whyNotCover, cX11_whyNotCover, 3, (some .int), 4, 0, 2, 11),
  (yX11_whyNotSupervise, cX11_whyNotSupervise, 3, (some .int), 4, 0, 2, 11),
  (yX11_whyNotExchange, cX11_whyNotExchange, 3, (some .int), 5, 0, 2, 11),
  (yX11_whyNotMove, cX11_whyNotMove, 3, (some .int), 5, 0, 2, 11),
  (yX11_whyNotRoom, cX11_whyNotRoom, 3, (some .int), 3, 0, 2, 11),
  (yX11_candidates, cX11_candidates, 4, (some .int), 4, 0, 1, 11),
  (yX11_chain, cX11_chain, 2, (some .int), 4, 0, 1, 11),
  (yX11_chainTeacher, cX11_chainTeacher, 4, (some .int), 4, 0, 2, 11),
  (yX11_partners, cX11_partners, 4, (some .int), 5, 0, 1, 11),
  (yX11_firstPartner, cX11_firstPartner, 3, (some .int), 5, 0, 1, 11),
  (yX11_slotsFor, cX11_slotsFor, 4, (some .int), 5, 0, 1, 11),
  (yX11_count, cX11_count, 2, (some .int), 4, 0, 1, 11),
  (yX11_lesson, cX11_lesson, 3, (some .int), 3, 0, 2, 11),
  (yX11_teacher, cX11_teacher, 3, (some .int), 3, 0, 2, 11),
  (yX11_room, cX11_room, 3, (some .int), 2, 0, 2, 11),
  (yX11_subject, cX11_subject, 3, (some .int), 2, 0, 2, 11),
  (yX11_requireClass, cX11_requireClass, 2, none, 0, 0, 1, 11),
  (yX11_lessonOfClass, cX11_lessonOfClass, 3, (some .int), 3, 0, 2, 11),
  (yX11_lessonOfTeacher, cX11_lessonOfTeacher, 3, (some .int), 3, 0, 2, 11),
  (yX11_lessonInRoom, cX11_lessonInRoom, 3, (some .int), 3, 0, 2, 11),
  (yX11_freeTeachers, cX11_freeTeachers, 4, (some .int), 3, 0, 1, 11),
  (yX11_freeRooms, cX11_freeRooms, 5, (some .int), 3, 0, 2, 11),
  (yX11_openLesson, cX11_openLesson, 4, (some .int), 2, 0, 1, 11),
  (yX11_difference, cX11_difference, 4, (some .int), 3, 0, 1, 11),
  (yX11_windows, cX11_windows, 3, (some .int), 3, 0, 2, 11),
  (yX11_classWindows, cX11_classWindows, 3, (some .int), 3, 0, 2, 11),
  (yX11_writeReport, cX11_writeReport, 2, (some .int), 4, 0, 1, 11),
  (yX11_reportByte, cX11_reportByte, 2, (some .int), 1, 0, 1, 11),
  (yX11_undo, cX11_undo, 1, (some .int), 3, 0, 0, 11),
  (yL_appendText, cL_appendText, 8, (some .int), 3, 1, 7, 99),
  (yL_truncateText, cL_truncateText, 4, (some .int), 1, 1, 3, 99),
  (yL_setAbsent, cL_setAbsent, 6, (some .int), 4, 1, 5, 99),
  (yL_cover, cL_cover, 5, (some .int), 6, 1, 4, 99),
  (yL_supervise, cL_supervise, 5, (some .int), 6, 1, 4, 99),
  (yL_repair, cL_repair, 4, (some .int), 6, 1, 3, 99),
  (yL_exchange, cL_exchange, 5, (some .int), 7, 1, 4, 99),
  (yL_move, cL_move, 5, (some .int), 7, 1, 4, 99),
  (yL_setRoom, cL_setRoom, 5, (some .int), 5, 1, 4, 99),
  (yL_reopen, cL_reopen, 4, (some .int), 4, 1, 3, 99),
  (yL_whyNotCover, cL_whyNotCover, 5, (some .int), 5, 1, 4, 99),
  (yL_whyNotSupervise, cL_whyNotSupervise, 5, (some .int), 5, 1, 4, 99),
  (yL_whyNotExchange, cL_whyNotExchange, 5, (some .int), 6, 1, 4, 99),
  (yL_whyNotMove, cL_whyNotMove, 5, (some .int), 6, 1, 4, 99),
  (yL_whyNotRoom, cL_whyNotRoom, 5, (some .int), 4, 1, 4, 99),
  (yL_candidates, cL_candidates, 4, (some .int), 5, 1, 3, 99),
  (yL_chain, cL_chain, 4, (some .int), 5, 1, 3, 99),
  (yL_chainTeacher, cL_chainTeacher, 5, (some .int), 5, 1, 4, 99),
  (yL_partners, cL_partners, 4, (some .int), 6, 1, 3, 99),
  (yL_firstPartner, cL_firstPartner, 4, (some .int), 6, 1, 3, 99),
  (yL_slotsFor, cL_slotsFor, 4, (some .int), 6, 1, 3, 99),
  (yL_count, cL_count, 4, (some .int), 5, 1, 3, 99),
  (yL_lesson, cL_lesson, 5, (some .int), 4, 1, 4, 99),
  (yL_teacher, cL_teacher, 5, (some .int), 4, 1, 4, 99),
  (yL_room, cL_room, 5, (some .int), 3, 1, 4, 99),
  (yL_subject, cL_subject, 5, (some .int), 3, 1, 4, 99),
  (yL_lessonOfClass, cL_lessonOfClass, 5, (some .int), 4, 1, 4, 99),
  (yL_lessonOfTeacher, cL_lessonOfTeacher, 5, (some .int), 4, 1, 4, 99),
  (yL_lessonInRoom, cL_lessonInRoom, 5, (some .int), 4, 1, 4, 99),
  (yL_freeTeachers, cL_freeTeachers, 4, (some .int), 4, 1, 3, 99),
  (yL_freeRooms, cL_freeRooms, 5, (some .int), 4, 1, 4, 99),
  (yL_openLesson, cL_openLesson, 4, (some .int), 3, 1, 3, 99),
  (yL_difference, cL_difference, 4, (some .int), 4, 1, 3, 99),
  (yL_windows, cL_windows, 5, (some .int), 4, 1, 4, 99),
  (yL_classWindows, cL_classWindows, 5, (some .int), 4, 1, 4, 99),
  (yL_writeReport, cL_writeReport, 4, (some .int), 5, 1, 3, 99),
  (yL_reportByte, cL_reportByte, 4, (some .int), 2, 1, 3, 99),
  (yL_undo, cL_undo, 3, (some .int), 4, 1, 2, 99)]
def gb_tb (mid : Nat) : MethodName × ByteArray × Nat × Option FieldType × Nat × Nat × Nat × Nat := bif Nat.blt mid 400 then gb_tabA.getD (mid - 1) (⟨"", "", ""⟩, ⟨#[]⟩, 0, none, 0, 9, 0, 99) else gb_tabB.getD (mid - 400) (⟨"", "", ""⟩, ⟨#[]⟩, 0, none, 0, 9, 0, 99)
def gb_y (mid : Nat) : MethodName := (gb_tb mid).1
def gb_b (mid : Nat) : ByteArray := (gb_tb mid).2.1
def gb_n (mid : Nat) : Nat := (gb_tb mid).2.2.1
def gb_r (mid : Nat) : Option FieldType := (gb_tb mid).2.2.2.1
def gb_lv (mid : Nat) : Nat := (gb_tb mid).2.2.2.2.1
def gb_ki (mid : Nat) : Nat := (gb_tb mid).2.2.2.2.2.1
def gb_ar (mid : Nat) : Nat := (gb_tb mid).2.2.2.2.2.2.1
def gb_ci (mid : Nat) : Nat := (gb_tb mid).2.2.2.2.2.2.2
section GB8
/-- a method's words -/
def gb_Tb (mid : Nat) : Prop := Cond.code (gb_y mid) (gb_b mid) (gb_n mid) (gb_r mid) ∈ gb_good ∧ Cond.initialized (gb_y mid).cls ∈ gb_good ∧ ((gb_y mid).cls ≠ "java/lang/invoke/MethodHandle" ∧ (gb_y mid).cls ≠ "java/lang/invoke/VarHandle") ∧ (parseMethodDescriptor (gb_y mid).desc).map (fun d => d.parameters.length) = some (gb_ar mid) ∧ gb_n mid ≤ 30 ∧
  (gb_ki mid = 0 → Cond.instanceMethod (gb_y mid) ∈ gb_good ∧ Cond.selects (gb_y mid).cls (gb_y mid) (gb_y mid) ∈ gb_good ∧ ∃ T N, vwCl[gb_ci mid]? = some ((gb_y mid).cls, T, N)) ∧ (gb_ki mid = 1 → Cond.static (gb_y mid) ∈ gb_good) ∧
  (gb_ki mid = 2 → Cond.instanceMethod (gb_y mid) ∈ gb_good ∧ Cond.selects (gb_y mid).cls (gb_y mid) (gb_y mid) ∈ gb_good ∧ (gb_y mid).cls = "java/lang/String")
def gb_iw (i : Nat) (w : Cond) : Bool := goodWord w && decide (lw_tbl[i]? = some w)
theorem gb_iw_in {i : Nat} {w : Cond} (h : gb_iw i w = true) : w ∈ gb_good := by
  obtain ⟨h1, h2⟩ := Bool.and_eq_true_iff.mp h
  exact gb_w i (of_decide_eq_true h2) h1
def gb_tbk (q : Nat × Nat × Nat × Nat × Nat) : Bool :=
  gb_iw q.2.1 (.code (gb_y q.1) (gb_b q.1) (gb_n q.1) (gb_r q.1)) && (gb_iw q.2.2.1 (.initialized (gb_y q.1).cls) && (decide ((gb_y q.1).cls ≠ "java/lang/invoke/MethodHandle" ∧ (gb_y q.1).cls ≠ "java/lang/invoke/VarHandle") && (decide ((parseMethodDescriptor (gb_y q.1).desc).map (fun d => d.parameters.length) = some (gb_ar q.1)) && (decide (gb_n q.1 ≤ 30) &&
  (match gb_ki q.1 with
    | 0 => gb_iw q.2.2.2.1 (.instanceMethod (gb_y q.1)) && (gb_iw q.2.2.2.2 (.selects (gb_y q.1).cls (gb_y q.1) (gb_y q.1)) && (match vwCl[gb_ci q.1]? with
      | some C => decide (C.1 = (gb_y q.1).cls)
      | none => false))
    | 1 => gb_iw q.2.2.2.1 (.static (gb_y q.1))
    | 2 => gb_iw q.2.2.2.1 (.instanceMethod (gb_y q.1)) && (gb_iw q.2.2.2.2 (.selects (gb_y q.1).cls (gb_y q.1) (gb_y q.1)) && decide ((gb_y q.1).cls = "java/lang/String"))
    | _ => false)))))
theorem gb_tbk_Tb {q : Nat × Nat × Nat × Nat × Nat} (h : gb_tbk q = true) : gb_Tb q.1 := by
  unfold gb_tbk at h
  obtain ⟨h1, h⟩ := Bool.and_eq_true_iff.mp h
  obtain ⟨h2, h⟩ := Bool.and_eq_true_iff.mp h
  obtain ⟨h3, h⟩ := Bool.and_eq_true_iff.mp h
  obtain ⟨h4, h⟩ := Bool.and_eq_true_iff.mp h
  obtain ⟨h5, h⟩ := Bool.and_eq_true_iff.mp h
  refine ⟨gb_iw_in h1, gb_iw_in h2, of_decide_eq_true h3, of_decide_eq_true h4, of_decide_eq_true h5, ?_, ?_, ?_⟩
  · intro hk
    rw [hk] at h
    obtain ⟨h6, h⟩ := Bool.and_eq_true_iff.mp h
    obtain ⟨h7, h⟩ := Bool.and_eq_true_iff.mp h
    refine ⟨gb_iw_in h6, gb_iw_in h7, ?_⟩
    split at h
    · rename_i C hC
      exact ⟨C.2.1, C.2.2, by rw [hC, ← of_decide_eq_true h]⟩
    · cases h
  · intro hk
    rw [hk] at h
    exact gb_iw_in h
  · intro hk
    rw [hk] at h
    obtain ⟨h6, h⟩ := Bool.and_eq_true_iff.mp h
    obtain ⟨h7, h⟩ := Bool.and_eq_true_iff.mp h
    exact ⟨gb_iw_in h6, gb_iw_in h7, of_decide_eq_true h⟩
def gb_wr0 : List (Nat × Nat × Nat × Nat × Nat) := [(1, 343, 114, 341, 342), (2, 272, 114, 270, 271), (3, 776, 114, 774, 775), (4, 642, 131, 640, 641), (5, 652, 131, 650, 651), (6, 1153, 120, 1151, 1152), (400, 1081, 112, 1079, 1080), (7, 1874, 124, 1873, 80), (8, 1661, 124, 1660, 41), (9, 1870, 124, 1868, 1869), (401, 1162, 112, 1160, 1161), (10, 1676, 124, 1675, 0), (11, 1878, 124, 1876, 1877), (12, 264, 113, 262, 263), (13, 606, 120, 605, 0), (14, 610, 120, 609, 0), (15, 617, 120, 616, 0), (16, 625, 130, 624, 0), (17, 621, 120, 620, 2), (18, 614, 120, 613, 1), (19, 602, 120, 600, 601), (20, 598, 120, 596, 597), (21, 638, 120, 636, 637), (22, 694, 120, 692, 693), (23, 690, 121, 689, 5), (24, 634, 121, 633, 4), (25, 699, 121, 698, 6), (26, 703, 121, 702, 7), (27, 707, 121, 706, 8), (28, 629, 121, 628, 3), (29, 268, 113, 266, 267), (30, 711, 121, 710, 9), (31, 276, 113, 274, 275), (32, 358, 112, 357, 0), (33, 722, 121, 721, 11), (34, 717, 121, 716, 10), (35, 280, 113, 278, 279), (36, 728, 121, 727, 12), (37, 734, 121, 733, 13), (38, 748, 113, 746, 747)]
theorem gb_wr0_ok : gb_wr0.all gb_tbk = true := by decide +kernel
def gb_wr1 : List (Nat × Nat × Nat × Nat × Nat) := [(39, 756, 113, 754, 755), (40, 752, 121, 751, 16), (41, 765, 113, 763, 764), (42, 761, 113, 759, 760), (43, 284, 113, 282, 283), (44, 744, 121, 743, 15), (45, 739, 121, 738, 14), (46, 593, 121, 591, 592), (47, 772, 113, 770, 771), (48, 351, 113, 349, 350), (49, 355, 115, 353, 354), (50, 347, 115, 345, 346), (51, 339, 115, 337, 338), (52, 334, 115, 332, 333), (53, 781, 119, 779, 780), (54, 589, 112, 587, 588), (55, 1894, 124, 1893, 83), (56, 1898, 124, 1897, 84), (57, 1904, 124, 1903, 85), (58, 1890, 124, 1889, 82), (59, 1886, 124, 1885, 81), (60, 1915, 124, 1914, 87), (61, 1925, 124, 1924, 89), (62, 1921, 124, 1920, 88), (63, 1911, 124, 1910, 86), (64, 1937, 124, 1936, 92), (65, 1933, 124, 1932, 91), (66, 1929, 124, 1928, 90), (67, 1949, 124, 1948, 94), (68, 1945, 124, 1944, 93), (69, 1734, 124, 1733, 0), (70, 1953, 124, 1952, 95), (71, 1965, 124, 1964, 97), (72, 1961, 124, 1960, 96), (73, 1588, 124, 1587, 40), (74, 1584, 124, 1583, 39), (75, 1882, 124, 1880, 1881), (76, 794, 119, 793, 17), (77, 790, 119, 788, 789), (78, 1013, 119, 1011, 1012)]
theorem gb_wr1_ok : gb_wr1.all gb_tbk = true := by decide +kernel
def gb_wr2 : List (Nat × Nat × Nat × Nat × Nat) := [(79, 1009, 119, 1007, 1008), (80, 808, 122, 807, 0), (81, 805, 122, 804, 18), (82, 824, 122, 823, 0), (83, 801, 122, 799, 800), (84, 833, 113, 831, 832), (85, 844, 115, 842, 843), (86, 837, 118, 835, 836), (87, 917, 113, 915, 916), (88, 860, 115, 858, 859), (89, 1002, 118, 1000, 1001), (90, 865, 117, 864, 19), (91, 876, 115, 874, 875), (92, 880, 113, 878, 879), (93, 871, 117, 870, 20), (94, 889, 115, 887, 888), (95, 884, 117, 883, 21), (96, 905, 117, 904, 25), (97, 897, 117, 896, 23), (98, 901, 117, 900, 24), (99, 893, 117, 892, 22), (100, 856, 117, 854, 855), (101, 909, 115, 907, 908), (102, 913, 115, 911, 912), (103, 852, 118, 850, 851), (104, 990, 113, 988, 989), (105, 998, 116, 996, 997), (106, 994, 118, 992, 993), (107, 977, 113, 975, 976), (108, 933, 116, 932, 26), (109, 969, 116, 968, 27), (110, 986, 116, 984, 985), (111, 982, 118, 980, 981), (112, 973, 116, 972, 28), (113, 965, 116, 963, 964), (114, 961, 118, 959, 960), (115, 953, 115, 951, 952), (116, 949, 115, 947, 948), (117, 943, 116, 941, 942), (118, 957, 115, 955, 956)]
theorem gb_wr2_ok : gb_wr2.all gb_tbk = true := by decide +kernel
def gb_wr3 : List (Nat × Nat × Nat × Nat × Nat) := [(119, 939, 118, 937, 938), (120, 925, 116, 923, 924), (121, 921, 118, 919, 920), (122, 848, 118, 846, 847), (123, 828, 118, 826, 827), (124, 786, 112, 784, 785), (125, 1691, 124, 1690, 0), (126, 1695, 124, 1694, 46), (127, 1985, 124, 1984, 99), (128, 1998, 124, 1997, 100), (129, 1715, 124, 1714, 50), (130, 1727, 124, 1726, 53), (131, 1846, 124, 1845, 76), (132, 1746, 124, 1745, 57), (133, 1850, 124, 1849, 77), (134, 1830, 124, 1829, 73), (135, 1826, 124, 1825, 72), (136, 1838, 124, 1837, 75), (137, 1742, 124, 1741, 56), (138, 1703, 124, 1702, 48), (139, 1731, 124, 1730, 54), (140, 1834, 124, 1833, 74), (141, 1814, 124, 1813, 70), (142, 1810, 124, 1809, 69), (143, 1738, 124, 1737, 55), (144, 1790, 124, 1789, 66), (145, 1723, 124, 1722, 52), (146, 1754, 124, 1753, 59), (147, 1758, 124, 1757, 60), (148, 1750, 124, 1749, 58), (149, 1786, 124, 1785, 65), (150, 1786, 124, 1785, 65), (151, 1786, 124, 1785, 65), (152, 1786, 124, 1785, 65), (153, 1782, 124, 1781, 64), (154, 1673, 124, 1672, 42), (155, 1774, 124, 1773, 63), (156, 1770, 124, 1769, 62), (157, 1719, 124, 1718, 51), (158, 1680, 124, 1679, 43)]
theorem gb_wr3_ok : gb_wr3.all gb_tbk = true := by decide +kernel
def gb_wr4 : List (Nat × Nat × Nat × Nat × Nat) := [(159, 2002, 124, 2001, 101), (160, 1707, 124, 1706, 49), (161, 1818, 124, 1817, 71), (162, 1794, 124, 1793, 67), (163, 1802, 124, 1801, 68), (164, 1762, 124, 1761, 61), (165, 1699, 124, 1698, 47), (166, 2006, 124, 2005, 102), (167, 1981, 124, 1980, 98), (168, 1977, 124, 1975, 1976), (169, 1017, 112, 1015, 1016), (170, 1969, 124, 1967, 1968), (171, 1021, 112, 1019, 1020), (172, 1973, 124, 1971, 1972), (402, 1190, 112, 1189, 30), (403, 1211, 112, 1210, 31), (404, 1186, 112, 1184, 1185), (173, 1684, 124, 1683, 44), (174, 1688, 124, 1687, 45), (175, 1669, 124, 1667, 1668), (405, 1225, 112, 1224, 32), (406, 1232, 112, 1231, 33), (407, 1221, 112, 1219, 1220), (176, 1711, 124, 1709, 1710), (177, 1245, 115, 1243, 1244), (408, 1240, 112, 1238, 1239), (178, 1766, 124, 1764, 1765), (409, 1252, 112, 1250, 1251), (179, 1778, 124, 1776, 1777), (180, 1025, 112, 1023, 1024), (181, 1798, 124, 1796, 1797), (410, 1260, 112, 1258, 1259), (182, 1806, 124, 1804, 1805), (411, 1272, 112, 1271, 34), (412, 1268, 112, 1266, 1267), (183, 1822, 124, 1820, 1821), (413, 1286, 112, 1285, 35), (414, 1282, 112, 1280, 1281), (184, 1842, 124, 1840, 1841), (415, 1296, 112, 1294, 1295)]
theorem gb_wr4_ok : gb_wr4.all gb_tbk = true := by decide +kernel
def gb_wr5 : List (Nat × Nat × Nat × Nat × Nat) := [(185, 1854, 124, 1852, 1853), (186, 1038, 115, 1036, 1037), (187, 1034, 115, 1032, 1033), (188, 1030, 112, 1028, 1029), (189, 1866, 124, 1865, 79), (190, 1862, 124, 1861, 78), (191, 1858, 124, 1856, 1857), (416, 1304, 112, 1302, 1303), (192, 2010, 124, 2008, 2009), (417, 1312, 112, 1310, 1311), (193, 2014, 124, 2012, 2013), (418, 1320, 112, 1318, 1319), (194, 2018, 124, 2016, 2017), (419, 1328, 112, 1326, 1327), (195, 2022, 124, 2020, 2021), (420, 1336, 112, 1334, 1335), (196, 2026, 124, 2024, 2025), (421, 1344, 112, 1342, 1343), (197, 2030, 124, 2028, 2029), (422, 1351, 112, 1349, 1350), (198, 2034, 124, 2032, 2033), (423, 1360, 112, 1358, 1359), (199, 2038, 124, 2036, 2037), (424, 1383, 112, 1381, 1382), (200, 2046, 124, 2045, 103), (201, 2042, 124, 2040, 2041), (425, 1390, 112, 1388, 1389), (202, 2050, 124, 2048, 2049), (426, 1398, 112, 1396, 1397), (203, 2054, 124, 2052, 2053), (204, 1065, 113, 1063, 1064), (205, 1069, 115, 1067, 1068), (206, 1061, 115, 1059, 1060), (427, 1406, 112, 1404, 1405), (207, 2067, 124, 2066, 105), (208, 2063, 124, 2062, 104), (209, 2058, 124, 2056, 2057), (428, 1416, 112, 1414, 1415), (210, 2071, 124, 2069, 2070), (211, 1430, 115, 1428, 1429)]
theorem gb_wr5_ok : gb_wr5.all gb_tbk = true := by decide +kernel
def gb_wr6 : List (Nat × Nat × Nat × Nat × Nat) := [(429, 1426, 112, 1424, 1425), (212, 2075, 124, 2073, 2074), (430, 1439, 112, 1437, 1438), (213, 2080, 124, 2078, 2079), (431, 1447, 112, 1445, 1446), (214, 2084, 124, 2082, 2083), (432, 1461, 112, 1460, 36), (433, 1457, 112, 1455, 1456), (215, 2093, 124, 2092, 106), (216, 2089, 124, 2087, 2088), (434, 1470, 112, 1468, 1469), (217, 2097, 124, 2095, 2096), (435, 1477, 112, 1475, 1476), (218, 2101, 124, 2099, 2100), (436, 1484, 112, 1482, 1483), (219, 2105, 124, 2103, 2104), (437, 1492, 112, 1490, 1491), (220, 2109, 124, 2107, 2108), (438, 1500, 112, 1498, 1499), (221, 2118, 124, 2117, 107), (222, 2114, 124, 2112, 2113), (439, 1509, 112, 1507, 1508), (223, 2122, 124, 2120, 2121), (224, 1521, 115, 1519, 1520), (440, 1517, 112, 1515, 1516), (225, 2130, 124, 2129, 108), (226, 2126, 124, 2124, 2125), (441, 1529, 112, 1527, 1528), (227, 2134, 124, 2132, 2133), (228, 1049, 130, 1048, 0), (229, 1043, 112, 1041, 1042), (230, 2138, 124, 2136, 2137), (231, 1057, 115, 1055, 1056), (232, 1053, 112, 1051, 1052), (233, 2142, 124, 2140, 2141), (234, 1544, 123, 1543, 37), (235, 1550, 123, 1549, 38), (236, 1540, 123, 1538, 1539), (442, 1536, 112, 1534, 1535), (237, 2154, 124, 2153, 110)]
theorem gb_wr6_ok : gb_wr6.all gb_tbk = true := by decide +kernel
def gb_wr7 : List (Nat × Nat × Nat × Nat × Nat) := [(238, 2150, 124, 2149, 109), (239, 2146, 124, 2144, 2145), (443, 1560, 112, 1558, 1559), (240, 2158, 124, 2156, 2157), (241, 1573, 119, 1571, 1572), (444, 1568, 112, 1566, 1567), (242, 1657, 124, 1655, 1656), (243, 1073, 112, 1071, 1072), (244, 1665, 124, 1663, 1664), (245, 1653, 124, 1651, 1652), (246, 260, 113, 258, 259)]
theorem gb_wr7_ok : gb_wr7.all gb_tbk = true := by decide +kernel
def gb_wrs : List (Nat × Nat × Nat × Nat × Nat) := gb_wr0 ++ (gb_wr1 ++ (gb_wr2 ++ (gb_wr3 ++ (gb_wr4 ++ (gb_wr5 ++ (gb_wr6 ++ (gb_wr7)))))))
theorem gb_aa {α : Type} {f : α → Bool} {a b : List α} (h1 : a.all f = true) (h2 : b.all f = true) : (a ++ b).all f = true := by rw [List.all_append, h1, h2]; rfl
theorem gb_wrs_ok : gb_wrs.all gb_tbk = true := gb_aa gb_wr0_ok (gb_aa gb_wr1_ok (gb_aa gb_wr2_ok (gb_aa gb_wr3_ok (gb_aa gb_wr4_ok (gb_aa gb_wr5_ok (gb_aa gb_wr6_ok (gb_wr7_ok)))))))
theorem gb_Tb_of {mid : Nat} (h : (gb_wrs.any fun q => q.1 == mid) = true) : gb_Tb mid := by
  obtain ⟨q, hq, h2⟩ := List.any_eq_true.mp h
  have h2 : q.1 = mid := by simpa using h2
  have := gb_tbk_Tb (List.all_eq_true.mp gb_wrs_ok q hq)
  rwa [h2] at this
def gb_Kl (C : String) (T : u_T) (N : Nat) : Prop := ∃ ty : Nat → FieldType, (∀ w ∈ u_ws C T N, w ∈ gb_good) ∧ (∀ j, j < N → parseFieldDescriptor (T j).2.2.1 = some (ty j)) ∧ (∀ a, a < N → ∀ b, b < N → a ≠ b → (T a).2.1 ≠ (T b).2.1) ∧ ∀ k, k < N → (T k).2.2.2 = false → ty k = .int
def gb_zig : List Cond → List Nat → Bool
  | [], [] => true
  | w :: ws, i :: is => gb_iw i w && gb_zig ws is
  | _, _ => false
theorem gb_ziq : ∀ {ws : List Cond} {is : List Nat}, gb_zig ws is = true → ∀ w ∈ ws, w ∈ gb_good
  | [], [], _, w, hw => nomatch hw
  | v :: ws, i :: is, h, w, hw => by
    unfold gb_zig at h
    obtain ⟨h1, h2⟩ := Bool.and_eq_true_iff.mp h
    rcases List.mem_cons.mp hw with rfl | hw
    · exact gb_iw_in h1
    · exact gb_ziq h2 w hw
  | [], _ :: _, h, _, _ => by cases h
  | _ :: _, [], h, _, _ => by cases h
def gb_in (w : Cond) : Bool := goodWord w && lw_tbl.any fun z => decide (z = w)
theorem gb_in_at {w : Cond} (h : gb_in w = true) : w ∈ gb_good := by
  obtain ⟨h1, h2⟩ := Bool.and_eq_true_iff.mp h
  obtain ⟨z, hz, h3⟩ := List.any_eq_true.mp h2
  exact List.mem_filter.mpr ⟨(of_decide_eq_true h3) ▸ hz, h1⟩
theorem gb_kl0 : gb_Kl RX0 TX0 7 := ⟨tyX0, gb_ziq (is := [390, 392, 394, 396, 398, 400, 402]) (by decide +kernel), tyX0_ok, nmX0, by decide +kernel⟩
theorem gb_kl1 : gb_Kl RX1 TX1 4 := ⟨tyX1, gb_ziq (is := [437, 439, 441, 443]) (by decide +kernel), tyX1_ok, nmX1, by decide +kernel⟩
theorem gb_kl2 : gb_Kl RX2 TX2 4 := ⟨tyX2, gb_ziq (is := [415, 417, 419, 421]) (by decide +kernel), tyX2_ok, nmX2, by decide +kernel⟩
theorem gb_kl3 : gb_Kl RX3 TX3 6 := ⟨tyX3, gb_ziq (is := [318, 320, 322, 324, 326, 328]) (by decide +kernel), tyX3_ok, nmX3, by decide +kernel⟩
theorem gb_kl4 : gb_Kl RX4 TX4 2 := ⟨tyX4, gb_ziq (is := [367, 369]) (by decide +kernel), tyX4_ok, nmX4, by decide +kernel⟩
theorem gb_kl5 : gb_Kl RX5 TX5 4 := ⟨tyX5, gb_ziq (is := [546, 548, 550, 552]) (by decide +kernel), tyX5_ok, nmX5, by decide +kernel⟩
theorem gb_kl6 : gb_Kl RX6 TX6 1 := ⟨tyX6, gb_ziq (is := [158]) (by decide +kernel), tyX6_ok, nmX6, by decide +kernel⟩
theorem gb_kl7 : gb_Kl RX7 TX7 16 := ⟨tyX7, gb_ziq (is := [224, 226, 228, 230, 232, 234, 236, 238, 240, 242, 244, 246, 248, 250, 252, 254]) (by decide +kernel), tyX7_ok, nmX7, by decide +kernel⟩
theorem gb_kl8 : gb_Kl RX8 TX8 2 := ⟨tyX8, gb_ziq (is := [501, 503]) (by decide +kernel), tyX8_ok, nmX8, by decide +kernel⟩
theorem gb_kl9 : gb_Kl RX9 TX9 5 := ⟨tyX9, gb_ziq (is := [521, 523, 525, 527, 529]) (by decide +kernel), tyX9_ok, nmX9, by decide +kernel⟩
theorem gb_kl10 : gb_Kl RX10 TX10 8 := ⟨tyX10, gb_ziq (is := [473, 475, 477, 479, 481, 483, 485, 487]) (by decide +kernel), tyX10_ok, nmX10, by decide +kernel⟩
theorem gb_kl11 : gb_Kl RX11 TX11 10 := ⟨tyX11, gb_ziq (is := [565, 567, 569, 571, 573, 575, 577, 579, 581, 583]) (by decide +kernel), tyX11_ok, nmX11, by decide +kernel⟩
theorem gb_kl12 : gb_Kl RX12 TX12 20 := ⟨tyX12, gb_ziq (is := [1609, 1611, 1613, 1615, 1617, 1619, 1621, 1623, 1625, 1627, 1629, 1631, 1633, 1635, 1637, 1639, 1641, 1643, 1645, 1647]) (by decide +kernel), tyX12_ok, nmX12, by decide +kernel⟩
theorem gb_kl : ∀ (ci : Nat) (q : vw_C), vwCl[ci]? = some q → gb_Kl q.1 q.2.1 q.2.2
  | 0, q, h => (by cases h; exact gb_kl0)
  | 1, q, h => (by cases h; exact gb_kl1)
  | 2, q, h => (by cases h; exact gb_kl2)
  | 3, q, h => (by cases h; exact gb_kl3)
  | 4, q, h => (by cases h; exact gb_kl4)
  | 5, q, h => (by cases h; exact gb_kl5)
  | 6, q, h => (by cases h; exact gb_kl6)
  | 7, q, h => (by cases h; exact gb_kl7)
  | 8, q, h => (by cases h; exact gb_kl8)
  | 9, q, h => (by cases h; exact gb_kl9)
  | 10, q, h => (by cases h; exact gb_kl10)
  | 11, q, h => (by cases h; exact gb_kl11)
  | 12, q, h => (by cases h; exact gb_kl12)
  | n + 13, q, h => (by cases h)
def gb_fok (own : String) (q : (Nat × Nat × Nat) × Nat) : Bool := match vwCl[q.1.2.1]? with
  | some C => decide (q.1.2.2 < C.2.2) && gb_iw q.2 (.fieldLink own q.1.1 (C.2.1 q.1.2.2).1 (C.2.1 q.1.2.2).2.1 (C.2.1 q.1.2.2).2.2.1)
  | none => false
theorem gb_fok_at {own : String} {q : (Nat × Nat × Nat) × Nat} (h : gb_fok own q = true) : gb_Fo own q.1 := by
  unfold gb_fok at h
  split at h
  · rename_i C hC
    obtain ⟨h1, h2⟩ := Bool.and_eq_true_iff.mp h
    have h1 := of_decide_eq_true h1
    obtain ⟨ty, k1, k2, k3, k4⟩ := gb_kl _ _ hC
    exact ⟨C.1, C.2.1, C.2.2, ty, hC, h1, gb_iw_in h2, k1, k2, k3, k4 _ h1⟩
  · cases h
theorem gb_fl_ok {own : String} {L : List ((Nat × Nat × Nat) × Nat)} (h : L.all (gb_fok own) = true) : ∀ q ∈ L.map (fun q => q.1), gb_Fo own q := by
  intro q hq
  obtain ⟨z, hz, rfl⟩ := List.mem_map.mp hq
  exact gb_fok_at (List.all_eq_true.mp h z hz)
/-- a link -/
def gb_lko (own : String) (q : Nat × Nat × Nat) : Bool := gb_iw q.2.2 (.methodLink own q.1 (gb_y q.2.1))
def gb_Ln (own : String) (lk lkn : List (Nat × Nat)) : Prop := (∀ q ∈ lk, Cond.methodLink own q.1 (gb_y q.2) ∈ gb_good) ∧ ∀ q ∈ lkn, gb_ki q.2 = 1 ∧ ∃ host, (own, q.1, gb_y q.2, host) ∈ gb_nest
theorem gb_lk_ok {own : String} {L : List (Nat × Nat × Nat)} (h : L.all (gb_lko own) = true) : ∀ q ∈ L.map (fun q => (q.1, q.2.1)), Cond.methodLink own q.1 (gb_y q.2) ∈ gb_good := by
  intro q hq
  obtain ⟨z, hz, rfl⟩ := List.mem_map.mp hq
  exact gb_iw_in (List.all_eq_true.mp h z hz)
def gb_nek (own : String) (q : Nat × Nat) : Bool := gb_ki q.2 == 1 && gb_nest.any fun z => decide (z.1 = own ∧ z.2.1 = q.1 ∧ z.2.2.1 = gb_y q.2)
theorem gb_nek_at {own : String} {q : Nat × Nat} (h : gb_nek own q = true) : gb_ki q.2 = 1 ∧ ∃ host, (own, q.1, gb_y q.2, host) ∈ gb_nest := by
  obtain ⟨h1, h2⟩ := Bool.and_eq_true_iff.mp h
  obtain ⟨z, hz, h3⟩ := List.any_eq_true.mp h2
  obtain ⟨h3, h4, h5⟩ := of_decide_eq_true h3
  exact ⟨by simpa using h1, z.2.2.2, by rw [← h3, ← h4, ← h5]; exact hz⟩
def gb_sto (own : String) (q : Nat × Nat) : Bool := gb_strs.any fun z => decide (z.1 = own ∧ z.2.1 = q.1 ∧ z.2.2.2 = q.2)
theorem gb_sto_at {own : String} {q : Nat × Nat} (h : gb_sto own q = true) : ∃ tx, (own, q.1, tx, q.2) ∈ gb_strs := by
  obtain ⟨z, hz, h3⟩ := List.any_eq_true.mp h
  obtain ⟨h3, h4, h5⟩ := of_decide_eq_true h3
  exact ⟨z.2.2.1, by rw [← h3, ← h4, ← h5]; exact hz⟩
def gb_fxL : List ((Nat × Nat × Nat) × Nat) := []
def gb_flL : List (Nat × Nat × Nat) := []
def gb_slL : List (Nat × Nat) := []
def gb_nlL : List (Nat × Int32) := []
def gb_llL : List (Nat × Int32) := []
def gb_tlL : List (Nat × Nat × Nat) := []
theorem gb_oL : gb_Own RL gb_flL gb_slL gb_nlL gb_llL gb_tlL := ⟨gb_fl_ok (L := gb_fxL) (by decide +kernel), (fun _ h => nomatch h), (fun _ h => nomatch h), (fun _ h => nomatch h), (fun _ h => nomatch h)⟩
def gb_lxL : List (Nat × Nat × Nat) := [(153, 54, 586), (157, 124, 783), (161, 169, 1014), (165, 171, 1018), (183, 180, 1022), (199, 188, 1027), (278, 229, 1040), (282, 232, 1050), (297, 243, 1070), (140, 445, 1074), (7, 400, 1078), (149, 446, 1155), (15, 401, 1159), (169, 447, 1179), (21, 404, 1183), (173, 448, 1215), (27, 407, 1218), (177, 449, 1234), (31, 408, 1237), (180, 450, 1246), (34, 409, 1249), (187, 451, 1254), (37, 410, 1257), (190, 452, 1262), (40, 412, 1265), (193, 453, 1276), (43, 414, 1279), (196, 454, 1290), (46, 415, 1293), (203, 455, 1298), (49, 416, 1301), (206, 456, 1306), (52, 417, 1309), (209, 457, 1314), (55, 418, 1317), (212, 458, 1322), (58, 419, 1325), (215, 459, 1330), (61, 420, 1333), (218, 460, 1338), (64, 421, 1341), (221, 461, 1345), (67, 422, 1348), (224, 462, 1353), (70, 423, 1357), (227, 463, 1377), (75, 424, 1380), (230, 464, 1384), (78, 425, 1387), (233, 465, 1392), (81, 426, 1395), (236, 466, 1400), (84, 427, 1403), (239, 467, 1410), (87, 428, 1413), (242, 468, 1420), (90, 429, 1423), (245, 469, 1433), (93, 430, 1436), (248, 470, 1441), (96, 431, 1444), (251, 471, 1451), (99, 433, 1454), (254, 472, 1464), (102, 434, 1467), (257, 473, 1471), (105, 435, 1474), (260, 474, 1478), (108, 436, 1481), (263, 475, 1486), (111, 437, 1489), (266, 476, 1494), (114, 438, 1497), (269, 477, 1503), (117, 439, 1506), (272, 478, 1511), (120, 440, 1514), (275, 479, 1523), (123, 441, 1526), (287, 480, 1530), (126, 442, 1533), (290, 481, 1554), (129, 443, 1557), (293, 482, 1562), (132, 444, 1565), (146, 245, 1650), (296, 242, 1654), (300, 244, 1662), (172, 175, 1666), (176, 176, 1708), (179, 178, 1763), (182, 179, 1775), (186, 181, 1795), (189, 182, 1803), (192, 183, 1819), (195, 184, 1839), (198, 185, 1851), (202, 191, 1855), (145, 9, 1867), (152, 11, 1875), (156, 75, 1879), (164, 170, 1966), (168, 172, 1970), (160, 168, 1974), (205, 192, 2007), (208, 193, 2011), (211, 194, 2015), (214, 195, 2019), (217, 196, 2023), (220, 197, 2027), (223, 198, 2031), (226, 199, 2035), (229, 201, 2039), (232, 202, 2047), (235, 203, 2051), (238, 209, 2055), (241, 210, 2068), (244, 212, 2072), (247, 213, 2077), (250, 214, 2081), (253, 216, 2086), (256, 217, 2094), (259, 218, 2098), (262, 219, 2102), (265, 220, 2106), (268, 222, 2111), (271, 223, 2119), (274, 226, 2123), (277, 227, 2131), (281, 230, 2135), (286, 233, 2139), (289, 239, 2143), (292, 240, 2155)]
def gb_lkL : List (Nat × Nat) := [(153, 54), (157, 124), (161, 169), (165, 171), (183, 180), (199, 188), (278, 229), (282, 232), (297, 243), (140, 445), (7, 400), (149, 446), (15, 401), (169, 447), (21, 404), (173, 448), (27, 407), (177, 449), (31, 408), (180, 450), (34, 409), (187, 451), (37, 410), (190, 452), (40, 412), (193, 453), (43, 414), (196, 454), (46, 415), (203, 455), (49, 416), (206, 456), (52, 417), (209, 457), (55, 418), (212, 458), (58, 419), (215, 459), (61, 420), (218, 460), (64, 421), (221, 461), (67, 422), (224, 462), (70, 423), (227, 463), (75, 424), (230, 464), (78, 425), (233, 465), (81, 426), (236, 466), (84, 427), (239, 467), (87, 428), (242, 468), (90, 429), (245, 469), (93, 430), (248, 470), (96, 431), (251, 471), (99, 433), (254, 472), (102, 434), (257, 473), (105, 435), (260, 474), (108, 436), (263, 475), (111, 437), (266, 476), (114, 438), (269, 477), (117, 439), (272, 478), (120, 440), (275, 479), (123, 441), (287, 480), (126, 442), (290, 481), (129, 443), (293, 482), (132, 444), (146, 245), (296, 242), (300, 244), (172, 175), (176, 176), (179, 178), (182, 179), (186, 181), (189, 182), (192, 183), (195, 184), (198, 185), (202, 191), (145, 9), (152, 11), (156, 75), (164, 170), (168, 172), (160, 168), (205, 192), (208, 193), (211, 194), (214, 195), (217, 196), (220, 197), (223, 198), (226, 199), (229, 201), (232, 202), (235, 203), (238, 209), (241, 210), (244, 212), (247, 213), (250, 214), (253, 216), (256, 217), (259, 218), (262, 219), (265, 220), (268, 222), (271, 223), (274, 226), (277, 227), (281, 230), (286, 233), (289, 239), (292, 240)]
def gb_lnL : List (Nat × Nat) := []
theorem gb_nL : gb_Ln RL gb_lkL gb_lnL := ⟨gb_lk_ok (L := gb_lxL) (by decide +kernel), (fun _ h => nomatch h)⟩
def gb_fxX0 : List ((Nat × Nat × Nat) × Nat) := [((85, 7, 3), 175), ((92, 7, 6), 187), ((106, 7, 8), 195), ((61, 7, 12), 210), ((47, 3, 1), 296), ((95, 3, 2), 304), ((29, 0, 0), 380), ((33, 0, 1), 381), ((14, 0, 2), 382), ((20, 0, 3), 383), ((23, 0, 4), 384), ((26, 0, 5), 385), ((37, 0, 6), 388)]
def gb_flX0 : List (Nat × Nat × Nat) := [(85, 7, 3), (92, 7, 6), (106, 7, 8), (61, 7, 12), (47, 3, 1), (95, 3, 2), (29, 0, 0), (33, 0, 1), (14, 0, 2), (20, 0, 3), (23, 0, 4), (26, 0, 5), (37, 0, 6)]
def gb_slX0 : List (Nat × Nat) := []
def gb_nlX0 : List (Nat × Int32) := []
def gb_llX0 : List (Nat × Int32) := []
def gb_tlX0 : List (Nat × Nat × Nat) := []
theorem gb_oX0 : gb_Own RX0 gb_flX0 gb_slX0 gb_nlX0 gb_llX0 gb_tlX0 := ⟨gb_fl_ok (L := gb_fxX0) (by decide +kernel), (fun _ h => nomatch h), (fun _ h => nomatch h), (fun _ h => nomatch h), (fun _ h => nomatch h)⟩
def gb_lxX0 : List (Nat × Nat × Nat) := [(41, 88, 857), (50, 1, 861), (54, 90, 862), (82, 48, 866), (88, 49, 867), (57, 93, 868), (69, 2, 872), (97, 91, 873), (66, 92, 877), (73, 95, 881), (103, 94, 886), (76, 99, 890), (109, 97, 894), (112, 98, 898), (79, 96, 902)]
def gb_lkX0 : List (Nat × Nat) := [(41, 88), (50, 1), (54, 90), (82, 48), (88, 49), (57, 93), (69, 2), (97, 91), (66, 92), (73, 95), (103, 94), (76, 99), (109, 97), (112, 98), (79, 96)]
def gb_lnX0 : List (Nat × Nat) := [(100, 32)]
theorem gb_nX0 : gb_Ln RX0 gb_lkX0 gb_lnX0 := ⟨gb_lk_ok (L := gb_lxX0) (by decide +kernel), (fun q hq => gb_nek_at (List.all_eq_true.mp (show gb_lnX0.all (gb_nek RX0) = true by decide +kernel) q hq))⟩
def gb_fxX1 : List ((Nat × Nat × Nat) × Nat) := [((32, 3, 1), 297), ((44, 3, 2), 301), ((47, 3, 3), 308), ((50, 3, 4), 313), ((53, 3, 5), 316), ((20, 1, 0), 432), ((16, 1, 1), 433), ((56, 1, 2), 434), ((24, 1, 3), 435)]
def gb_flX1 : List (Nat × Nat × Nat) := [(32, 3, 1), (44, 3, 2), (47, 3, 3), (50, 3, 4), (53, 3, 5), (20, 1, 0), (16, 1, 1), (56, 1, 2), (24, 1, 3)]
def gb_slX1 : List (Nat × Nat) := []
def gb_nlX1 : List (Nat × Int32) := []
def gb_llX1 : List (Nat × Int32) := []
def gb_tlX1 : List (Nat × Nat × Nat) := []
theorem gb_oX1 : gb_Own RX1 gb_flX1 gb_slX1 gb_nlX1 gb_llX1 gb_tlX1 := ⟨gb_fl_ok (L := gb_fxX1) (by decide +kernel), (fun _ h => nomatch h), (fun _ h => nomatch h), (fun _ h => nomatch h), (fun _ h => nomatch h)⟩
def gb_lxX1 : List (Nat × Nat × Nat) := [(28, 76, 791), (37, 1, 795), (40, 2, 796), (59, 79, 1574)]
def gb_lkX1 : List (Nat × Nat) := [(28, 76), (37, 1), (40, 2), (59, 79)]
def gb_lnX1 : List (Nat × Nat) := []
theorem gb_nX1 : gb_Ln RX1 gb_lkX1 gb_lnX1 := ⟨gb_lk_ok (L := gb_lxX1) (by decide +kernel), (fun _ h => nomatch h)⟩
def gb_fxX2 : List ((Nat × Nat × Nat) × Nat) := [((91, 7, 6), 186), ((98, 3, 1), 298), ((95, 3, 2), 303), ((144, 3, 3), 310), ((75, 3, 5), 315), ((128, 0, 5), 386), ((7, 2, 0), 411), ((13, 2, 1), 412), ((17, 2, 2), 413), ((21, 2, 3), 414)]
def gb_flX2 : List (Nat × Nat × Nat) := [(91, 7, 6), (98, 3, 1), (95, 3, 2), (144, 3, 3), (75, 3, 5), (128, 0, 5), (7, 2, 0), (13, 2, 1), (17, 2, 2), (21, 2, 3)]
def gb_slX2 : List (Nat × Nat) := []
def gb_nlX2 : List (Nat × Int32) := []
def gb_llX2 : List (Nat × Int32) := []
def gb_tlX2 : List (Nat × Nat × Nat) := []
theorem gb_oX2 : gb_Own RX2 gb_flX2 gb_slX2 gb_nlX2 gb_llX2 gb_tlX2 := ⟨gb_fl_ok (L := gb_fxX2) (by decide +kernel), (fun _ h => nomatch h), (fun _ h => nomatch h), (fun _ h => nomatch h), (fun _ h => nomatch h)⟩
def gb_lxX2 : List (Nat × Nat × Nat) := [(27, 41, 829), (33, 84, 830), (36, 86, 834), (81, 1, 838), (87, 2, 839), (101, 48, 840), (104, 85, 841), (40, 122, 845), (54, 103, 849), (123, 100, 853), (131, 101, 906), (114, 102, 910), (44, 87, 914), (47, 121, 918), (108, 120, 922), (51, 119, 936), (117, 117, 940), (120, 118, 954), (57, 114, 958), (135, 113, 962), (60, 107, 974), (63, 111, 979), (138, 110, 983), (66, 104, 987), (69, 106, 991), (141, 105, 995), (72, 89, 999), (147, 88, 1003)]
def gb_lkX2 : List (Nat × Nat) := [(27, 41), (33, 84), (36, 86), (81, 1), (87, 2), (101, 48), (104, 85), (40, 122), (54, 103), (123, 100), (131, 101), (114, 102), (44, 87), (47, 121), (108, 120), (51, 119), (117, 117), (120, 118), (57, 114), (135, 113), (60, 107), (63, 111), (138, 110), (66, 104), (69, 106), (141, 105), (72, 89), (147, 88)]
def gb_lnX2 : List (Nat × Nat) := []
theorem gb_nX2 : gb_Ln RX2 gb_lkX2 gb_lnX2 := ⟨gb_lk_ok (L := gb_lxX2) (by decide +kernel), (fun _ h => nomatch h)⟩
def gb_fxX3 : List ((Nat × Nat × Nat) × Nat) := [((79, 7, 1), 169), ((43, 7, 6), 185), ((49, 7, 13), 214), ((56, 7, 14), 217), ((59, 7, 15), 221), ((32, 3, 0), 293), ((14, 3, 1), 294), ((20, 3, 2), 300), ((23, 3, 3), 307), ((26, 3, 4), 312), ((29, 3, 5), 314)]
def gb_flX3 : List (Nat × Nat × Nat) := [(79, 7, 1), (43, 7, 6), (49, 7, 13), (56, 7, 14), (59, 7, 15), (32, 3, 0), (14, 3, 1), (20, 3, 2), (23, 3, 3), (26, 3, 4), (29, 3, 5)]
def gb_slX3 : List (Nat × Nat) := []
def gb_nlX3 : List (Nat × Int32) := []
def gb_llX3 : List (Nat × Int32) := []
def gb_tlX3 : List (Nat × Nat × Nat) := []
theorem gb_oX3 : gb_Own RX3 gb_flX3 gb_slX3 gb_nlX3 gb_llX3 gb_tlX3 := ⟨gb_fl_ok (L := gb_fxX3) (by decide +kernel), (fun _ h => nomatch h), (fun _ h => nomatch h), (fun _ h => nomatch h), (fun _ h => nomatch h)⟩
def gb_lxX3 : List (Nat × Nat × Nat) := [(36, 2, 335), (40, 51, 336), (52, 1, 340), (62, 50, 344), (69, 48, 348), (72, 49, 352), (75, 115, 950), (97, 186, 1035), (90, 206, 1058), (86, 204, 1062), (94, 205, 1066), (82, 101, 1522)]
def gb_lkX3 : List (Nat × Nat) := [(36, 2), (40, 51), (52, 1), (62, 50), (69, 48), (72, 49), (75, 115), (97, 186), (90, 206), (86, 204), (94, 205), (82, 101)]
def gb_lnX3 : List (Nat × Nat) := [(66, 32)]
theorem gb_nX3 : gb_Ln RX3 gb_lkX3 gb_lnX3 := ⟨gb_lk_ok (L := gb_lxX3) (by decide +kernel), (fun q hq => gb_nek_at (List.all_eq_true.mp (show gb_lnX3.all (gb_nek RX3) = true by decide +kernel) q hq))⟩
def gb_fxX4 : List ((Nat × Nat × Nat) × Nat) := [((89, 7, 7), 190), ((53, 7, 8), 194), ((86, 7, 10), 200), ((66, 7, 11), 205), ((39, 7, 12), 209), ((19, 3, 1), 295), ((72, 3, 2), 305), ((79, 3, 3), 309), ((9, 4, 0), 365), ((15, 4, 1), 366)]
def gb_flX4 : List (Nat × Nat × Nat) := [(89, 7, 7), (53, 7, 8), (86, 7, 10), (66, 7, 11), (39, 7, 12), (19, 3, 1), (72, 3, 2), (79, 3, 3), (9, 4, 0), (15, 4, 1)]
def gb_slX4 : List (Nat × Nat) := []
def gb_nlX4 : List (Nat × Int32) := []
def gb_llX4 : List (Nat × Int32) := []
def gb_tlX4 : List (Nat × Nat × Nat) := []
theorem gb_oX4 : gb_Own RX4 gb_flX4 gb_slX4 gb_nlX4 gb_llX4 gb_tlX4 := ⟨gb_fl_ok (L := gb_fxX4) (by decide +kernel), (fun _ h => nomatch h), (fun _ h => nomatch h), (fun _ h => nomatch h), (fun _ h => nomatch h)⟩
def gb_lxX4 : List (Nat × Nat × Nat) := [(25, 1, 926), (31, 91, 927), (35, 50, 928), (44, 42, 929), (47, 108, 930), (82, 101, 934), (50, 94, 935), (56, 88, 944), (59, 48, 945), (62, 116, 946), (69, 109, 966), (75, 112, 970)]
def gb_lkX4 : List (Nat × Nat) := [(25, 1), (31, 91), (35, 50), (44, 42), (47, 108), (82, 101), (50, 94), (56, 88), (59, 48), (62, 116), (69, 109), (75, 112)]
def gb_lnX4 : List (Nat × Nat) := []
theorem gb_nX4 : gb_Ln RX4 gb_lkX4 gb_lnX4 := ⟨gb_lk_ok (L := gb_lxX4) (by decide +kernel), (fun _ h => nomatch h)⟩
def gb_fxX5 : List ((Nat × Nat × Nat) × Nat) := [((32, 7, 0), 163), ((37, 7, 1), 167), ((43, 7, 11), 204), ((55, 7, 12), 211), ((66, 3, 2), 302), ((20, 5, 0), 540), ((24, 5, 1), 541), ((16, 5, 2), 542), ((28, 5, 3), 544)]
def gb_flX5 : List (Nat × Nat × Nat) := [(32, 7, 0), (37, 7, 1), (43, 7, 11), (55, 7, 12), (66, 3, 2), (20, 5, 0), (24, 5, 1), (16, 5, 2), (28, 5, 3)]
def gb_slX5 : List (Nat × Nat) := []
def gb_nlX5 : List (Nat × Int32) := []
def gb_llX5 : List (Nat × Int32) := []
def gb_tlX5 : List (Nat × Nat × Nat) := []
theorem gb_oX5 : gb_Own RX5 gb_flX5 gb_slX5 gb_nlX5 gb_llX5 gb_tlX5 := ⟨gb_fl_ok (L := gb_fxX5) (by decide +kernel), (fun _ h => nomatch h), (fun _ h => nomatch h), (fun _ h => nomatch h), (fun _ h => nomatch h)⟩
def gb_lxX5 : List (Nat × Nat × Nat) := [(40, 234, 1541), (72, 2, 1545), (46, 101, 1546), (52, 235, 1547), (58, 1, 1551), (62, 88, 1552), (69, 115, 1553)]
def gb_lkX5 : List (Nat × Nat) := [(40, 234), (72, 2), (46, 101), (52, 235), (58, 1), (62, 88), (69, 115)]
def gb_lnX5 : List (Nat × Nat) := []
theorem gb_nX5 : gb_Ln RX5 gb_lkX5 gb_lnX5 := ⟨gb_lk_ok (L := gb_lxX5) (by decide +kernel), (fun _ h => nomatch h)⟩
def gb_fxX6 : List ((Nat × Nat × Nat) × Nat) := [((9, 6, 0), 157)]
def gb_flX6 : List (Nat × Nat × Nat) := [(9, 6, 0)]
def gb_slX6 : List (Nat × Nat) := []
def gb_nlX6 : List (Nat × Int32) := []
def gb_llX6 : List (Nat × Int32) := []
def gb_tlX6 : List (Nat × Nat × Nat) := []
theorem gb_oX6 : gb_Own RX6 gb_flX6 gb_slX6 gb_nlX6 gb_llX6 gb_tlX6 := ⟨gb_fl_ok (L := gb_fxX6) (by decide +kernel), (fun _ h => nomatch h), (fun _ h => nomatch h), (fun _ h => nomatch h), (fun _ h => nomatch h)⟩
def gb_lxX6 : List (Nat × Nat × Nat) := [(15, 1, 777)]
def gb_lkX6 : List (Nat × Nat) := [(15, 1)]
def gb_lnX6 : List (Nat × Nat) := []
theorem gb_nX6 : gb_Ln RX6 gb_lkX6 gb_lnX6 := ⟨gb_lk_ok (L := gb_lxX6) (by decide +kernel), (fun _ h => nomatch h)⟩
def gb_fxX7 : List ((Nat × Nat × Nat) × Nat) := [((44, 7, 0), 162), ((48, 7, 1), 166), ((51, 7, 2), 171), ((54, 7, 3), 174), ((57, 7, 4), 178), ((60, 7, 5), 181), ((63, 7, 6), 184), ((14, 7, 7), 189), ((20, 7, 8), 193), ((23, 7, 9), 197), ((26, 7, 10), 199), ((29, 7, 11), 203), ((32, 7, 12), 208), ((35, 7, 13), 213), ((38, 7, 14), 216), ((41, 7, 15), 220)]
def gb_flX7 : List (Nat × Nat × Nat) := [(44, 7, 0), (48, 7, 1), (51, 7, 2), (54, 7, 3), (57, 7, 4), (60, 7, 5), (63, 7, 6), (14, 7, 7), (20, 7, 8), (23, 7, 9), (26, 7, 10), (29, 7, 11), (32, 7, 12), (35, 7, 13), (38, 7, 14), (41, 7, 15)]
def gb_slX7 : List (Nat × Nat) := []
def gb_nlX7 : List (Nat × Int32) := []
def gb_llX7 : List (Nat × Int32) := []
def gb_tlX7 : List (Nat × Nat × Nat) := []
theorem gb_oX7 : gb_Own RX7 gb_flX7 gb_slX7 gb_nlX7 gb_llX7 gb_tlX7 := ⟨gb_fl_ok (L := gb_fxX7) (by decide +kernel), (fun _ h => nomatch h), (fun _ h => nomatch h), (fun _ h => nomatch h), (fun _ h => nomatch h)⟩
def gb_lxX7 : List (Nat × Nat × Nat) := [(66, 12, 261), (69, 29, 265), (87, 2, 269), (72, 31, 273), (76, 35, 277), (79, 43, 281), (98, 1, 757), (94, 41, 762), (83, 3, 773), (90, 38, 978)]
def gb_lkX7 : List (Nat × Nat) := [(66, 12), (69, 29), (87, 2), (72, 31), (76, 35), (79, 43), (98, 1), (94, 41), (83, 3), (90, 38)]
def gb_lnX7 : List (Nat × Nat) := [(102, 32)]
theorem gb_nX7 : gb_Ln RX7 gb_lkX7 gb_lnX7 := ⟨gb_lk_ok (L := gb_lxX7) (by decide +kernel), (fun q hq => gb_nek_at (List.all_eq_true.mp (show gb_lnX7.all (gb_nek RX7) = true by decide +kernel) q hq))⟩
def gb_fxX8 : List ((Nat × Nat × Nat) × Nat) := [((63, 7, 0), 164), ((67, 7, 1), 168), ((94, 7, 2), 172), ((138, 7, 3), 176), ((147, 7, 4), 179), ((114, 7, 5), 182), ((159, 7, 7), 191), ((150, 7, 10), 201), ((127, 7, 11), 206), ((135, 7, 14), 218), ((144, 7, 15), 222), ((91, 10, 2), 460), ((169, 10, 3), 463), ((97, 10, 5), 467), ((18, 8, 0), 498), ((12, 8, 1), 499)]
def gb_flX8 : List (Nat × Nat × Nat) := [(63, 7, 0), (67, 7, 1), (94, 7, 2), (138, 7, 3), (147, 7, 4), (114, 7, 5), (159, 7, 7), (150, 7, 10), (127, 7, 11), (135, 7, 14), (144, 7, 15), (91, 10, 2), (169, 10, 3), (97, 10, 5), (18, 8, 0), (12, 8, 1)]
def gb_slX8 : List (Nat × Nat) := [(49, 0), (73, 1), (86, 2), (107, 3), (112, 4), (116, 5)]
def gb_nlX8 : List (Nat × Int32) := []
def gb_llX8 : List (Nat × Int32) := []
def gb_tlX8 : List (Nat × Nat × Nat) := []
theorem gb_oX8 : gb_Own RX8 gb_flX8 gb_slX8 gb_nlX8 gb_llX8 gb_tlX8 := ⟨gb_fl_ok (L := gb_fxX8) (by decide +kernel), (fun q hq => gb_sto_at (List.all_eq_true.mp (show gb_slX8.all (gb_sto RX8) = true by decide +kernel) q hq)), (fun _ h => nomatch h), (fun _ h => nomatch h), (fun _ h => nomatch h)⟩
def gb_lxX8 : List (Nat × Nat × Nat) := [(22, 12, 594), (25, 20, 595), (30, 28, 626), (51, 24, 631), (75, 21, 635), (78, 23, 687), (172, 22, 691), (118, 19, 695), (55, 25, 696), (59, 26, 700), (70, 27, 704), (34, 30, 708), (82, 29, 713), (37, 34, 714), (88, 33, 719), (103, 31, 724), (40, 36, 725), (109, 35, 730), (43, 37, 731), (46, 45, 736), (121, 44, 741), (124, 38, 745), (131, 40, 749), (166, 39, 753), (141, 42, 758), (153, 1, 767), (162, 43, 768)]
def gb_lkX8 : List (Nat × Nat) := [(22, 12), (25, 20), (30, 28), (51, 24), (75, 21), (78, 23), (172, 22), (118, 19), (55, 25), (59, 26), (70, 27), (34, 30), (82, 29), (37, 34), (88, 33), (103, 31), (40, 36), (109, 35), (43, 37), (46, 45), (121, 44), (124, 38), (131, 40), (166, 39), (141, 42), (153, 1), (162, 43)]
def gb_lnX8 : List (Nat × Nat) := [(100, 32)]
theorem gb_nX8 : gb_Ln RX8 gb_lkX8 gb_lnX8 := ⟨gb_lk_ok (L := gb_lxX8) (by decide +kernel), (fun q hq => gb_nek_at (List.all_eq_true.mp (show gb_lnX8.all (gb_nek RX8) = true by decide +kernel) q hq))⟩
def gb_fxX9 : List ((Nat × Nat × Nat) × Nat) := [((40, 10, 2), 457), ((15, 10, 3), 461), ((43, 10, 4), 464), ((46, 10, 5), 466), ((9, 9, 0), 512), ((26, 9, 1), 513), ((21, 9, 2), 515), ((49, 9, 3), 517), ((52, 9, 4), 519)]
def gb_flX9 : List (Nat × Nat × Nat) := [(40, 10, 2), (15, 10, 3), (43, 10, 4), (46, 10, 5), (9, 9, 0), (26, 9, 1), (21, 9, 2), (49, 9, 3), (52, 9, 4)]
def gb_slX9 : List (Nat × Nat) := [(63, 6), (65, 7), (67, 8), (69, 9), (71, 10), (73, 11), (75, 12), (77, 13), (79, 14), (81, 15)]
def gb_nlX9 : List (Nat × Int32) := []
def gb_llX9 : List (Nat × Int32) := []
def gb_tlX9 : List (Nat × Nat × Nat) := []
theorem gb_oX9 : gb_Own RX9 gb_flX9 gb_slX9 gb_nlX9 gb_llX9 gb_tlX9 := ⟨gb_fl_ok (L := gb_fxX9) (by decide +kernel), (fun q hq => gb_sto_at (List.all_eq_true.mp (show gb_slX9.all (gb_sto RX9) = true by decide +kernel) q hq)), (fun _ h => nomatch h), (fun _ h => nomatch h), (fun _ h => nomatch h)⟩
def gb_lxX9 : List (Nat × Nat × Nat) := [(22, 81, 802), (55, 80, 806), (59, 21, 819), (29, 22, 820), (33, 19, 821), (36, 82, 822)]
def gb_lkX9 : List (Nat × Nat) := [(22, 81), (55, 80), (59, 21), (29, 22), (33, 19), (36, 82)]
def gb_lnX9 : List (Nat × Nat) := []
theorem gb_nX9 : gb_Ln RX9 gb_lkX9 gb_lnX9 := ⟨gb_lk_ok (L := gb_lxX9) (by decide +kernel), (fun _ h => nomatch h)⟩
def gb_fxX10 : List ((Nat × Nat × Nat) × Nat) := [((14, 10, 0), 454), ((24, 10, 1), 456), ((50, 10, 2), 458), ((44, 10, 3), 462), ((34, 10, 4), 465), ((75, 10, 5), 468), ((31, 10, 6), 469), ((20, 10, 7), 471)]
def gb_flX10 : List (Nat × Nat × Nat) := [(14, 10, 0), (24, 10, 1), (50, 10, 2), (44, 10, 3), (34, 10, 4), (75, 10, 5), (31, 10, 6), (20, 10, 7)]
def gb_slX10 : List (Nat × Nat) := []
def gb_nlX10 : List (Nat × Int32) := [(78, 1000000)]
def gb_llX10 : List (Nat × Int32) := []
def gb_tlX10 : List (Nat × Nat × Nat) := []
theorem gb_oX10 : gb_Own RX10 gb_flX10 gb_slX10 gb_nlX10 gb_llX10 gb_tlX10 := ⟨gb_fl_ok (L := gb_fxX10) (by decide +kernel), (fun _ h => nomatch h), (fun q hq => gb_in_at (List.all_eq_true.mp (show gb_nlX10.all (fun q => gb_in (.constant RX10 q.1 q.2)) = true by decide +kernel) q hq)), (fun _ h => nomatch h), (fun _ h => nomatch h)⟩
def gb_lxX10 : List (Nat × Nat × Nat) := [(37, 19, 599), (40, 13, 603), (47, 1, 607), (53, 14, 608), (57, 18, 611), (60, 15, 615), (63, 17, 618), (79, 16, 623), (66, 4, 639), (71, 5, 649), (27, 2, 1154)]
def gb_lkX10 : List (Nat × Nat) := [(37, 19), (40, 13), (47, 1), (53, 14), (57, 18), (60, 15), (63, 17), (79, 16), (66, 4), (71, 5), (27, 2)]
def gb_lnX10 : List (Nat × Nat) := []
theorem gb_nX10 : gb_Ln RX10 gb_lkX10 gb_lnX10 := ⟨gb_lk_ok (L := gb_lxX10) (by decide +kernel), (fun _ h => nomatch h)⟩
def gb_fxX11 : List ((Nat × Nat × Nat) × Nat) := [((287, 7, 0), 165), ((290, 7, 1), 170), ((293, 7, 2), 173), ((270, 7, 3), 177), ((296, 7, 4), 180), ((298, 7, 5), 183), ((128, 7, 6), 188), ((360, 7, 7), 192), ((332, 7, 8), 196), ((335, 7, 9), 198), ((350, 7, 10), 202), ((309, 7, 11), 207), ((312, 7, 12), 212), ((318, 7, 13), 215), ((321, 7, 14), 219), ((324, 7, 15), 223), ((218, 3, 1), 299), ((242, 3, 2), 306), ((236, 3, 3), 311), ((338, 3, 5), 317), ((280, 0, 5), 387), ((210, 0, 6), 389), ((411, 1, 3), 436), ((95, 10, 1), 455), ((135, 10, 2), 459), ((170, 10, 6), 470), ((173, 10, 7), 472), ((119, 8, 1), 500), ((141, 9, 1), 514), ((154, 9, 2), 516), ((144, 9, 3), 518), ((147, 9, 4), 520), ((408, 5, 2), 543), ((405, 5, 3), 545), ((10, 11, 0), 555), ((24, 11, 1), 556), ((36, 11, 2), 557), ((43, 11, 3), 558), ((52, 11, 4), 559), ((61, 11, 5), 560), ((68, 11, 6), 561), ((77, 11, 7), 562), ((84, 11, 8), 563), ((91, 11, 9), 564)]
def gb_flX11 : List (Nat × Nat × Nat) := [(287, 7, 0), (290, 7, 1), (293, 7, 2), (270, 7, 3), (296, 7, 4), (298, 7, 5), (128, 7, 6), (360, 7, 7), (332, 7, 8), (335, 7, 9), (350, 7, 10), (309, 7, 11), (312, 7, 12), (318, 7, 13), (321, 7, 14), (324, 7, 15), (218, 3, 1), (242, 3, 2), (236, 3, 3), (338, 3, 5), (280, 0, 5), (210, 0, 6), (411, 1, 3), (95, 10, 1), (135, 10, 2), (170, 10, 6), (173, 10, 7), (119, 8, 1), (141, 9, 1), (154, 9, 2), (144, 9, 3), (147, 9, 4), (408, 5, 2), (405, 5, 3), (10, 11, 0), (24, 11, 1), (36, 11, 2), (43, 11, 3), (52, 11, 4), (61, 11, 5), (68, 11, 6), (77, 11, 7), (84, 11, 8), (91, 11, 9)]
def gb_slX11 : List (Nat × Nat) := [(101, 16), (112, 17), (427, 18), (432, 19), (422, 20), (446, 21), (437, 22), (442, 23), (277, 24), (283, 25), (307, 26), (330, 27), (348, 28), (353, 29), (357, 30), (366, 31), (444, 32), (378, 33), (383, 34), (385, 35), (406, 36), (414, 37)]
def gb_nlX11 : List (Nat × Int32) := []
def gb_llX11 : List (Nat × Int32) := []
def gb_tlX11 : List (Nat × Nat × Nat) := [(99, 103, 1), (110, 114, 2), (275, 279, 4), (355, 359, 3)]
theorem gb_oX11 : gb_Own RX11 gb_flX11 gb_slX11 gb_nlX11 gb_llX11 gb_tlX11 := ⟨gb_fl_ok (L := gb_fxX11) (by decide +kernel), (fun q hq => gb_sto_at (List.all_eq_true.mp (show gb_slX11.all (gb_sto RX11) = true by decide +kernel) q hq)), (fun _ h => nomatch h), (fun _ h => nomatch h), ((List.forall_mem_cons.mpr ⟨gb_zip_at (is := [1082, 128, 125, 1104, 1113, 1118, 1121, 1123, 1105, 1106, 143, 144, 1107, 1112, 1119, 1139, 1094, 1140, 1096, 1141, 1098, 1108, 1110, 1100, 1135, 1136, 1138, 1100, 1126, 1127, 1128, 1129, 1086, 1129, 1130, 1131, 1132, 1088, 1132, 1133, 1134, 1135, 1090, 1125, 1083, 1084, 1091, 1092, 1093, 1095, 1097, 1099, 1137, 1102, 1101]) (by decide +kernel), (List.forall_mem_cons.mpr ⟨gb_zip_at (is := [1163, 129, 125, 1104, 1113, 1118, 1121, 1123, 1105, 1106, 143, 144, 1107, 1112, 1119, 1139, 1094, 1140, 1096, 1141, 1098, 1108, 1110, 1100, 1135, 1136, 1138, 1100, 1174, 1175, 1176, 1129, 1086, 1129, 1130, 1131, 1132, 1088, 1132, 1133, 1134, 1135, 1090, 1173, 1164, 1165, 1166, 1115, 1167, 1168, 1169, 1170, 1137, 1102, 1171]) (by decide +kernel), (List.forall_mem_cons.mpr ⟨gb_zip_at (is := [1361, 136, 125, 1104, 1113, 1118, 1121, 1123, 1105, 1106, 143, 144, 1107, 1112, 1119, 1139, 1094, 1140, 1096, 1141, 1098, 1108, 1110, 1100, 1135, 1136, 1138, 1100, 1372, 1373, 1374, 1129, 1086, 1129, 1130, 1131, 1132, 1088, 1132, 1133, 1134, 1135, 1090, 1371, 1362, 1363, 1364, 1117, 1365, 1366, 1367, 1368, 1137, 1102, 1369]) (by decide +kernel), (List.forall_mem_cons.mpr ⟨gb_zip_at (is := [1192, 135, 125, 1104, 1113, 1118, 1121, 1123, 1105, 1106, 143, 144, 1107, 1112, 1119, 1139, 1094, 1140, 1096, 1141, 1098, 1108, 1110, 1100, 1135, 1136, 1138, 1100, 1203, 1204, 1205, 1129, 1086, 1129, 1130, 1131, 1132, 1088, 1132, 1133, 1134, 1135, 1090, 1202, 1193, 1194, 1195, 1116, 1196, 1197, 1198, 1199, 1137, 1102, 1200]) (by decide +kernel), fun _ h => nomatch h⟩)⟩)⟩)⟩))⟩
def gb_lxX11 : List (Nat × Nat × Nat) := [(16, 246, 257), (28, 52, 331), (115, 46, 590), (122, 47, 769), (125, 53, 778), (131, 77, 787), (134, 20, 797), (138, 83, 798), (150, 123, 825), (157, 22, 1004), (161, 19, 1005), (164, 79, 1006), (167, 78, 1010), (211, 122, 1026), (248, 187, 1031), (251, 51, 1039), (222, 1, 1044), (196, 94, 1045), (391, 16, 1046), (396, 228, 1047), (399, 231, 1054), (106, 6, 1150), (176, 402, 1187), (424, 41, 1191), (179, 403, 1208), (429, 84, 1212), (182, 86, 1214), (186, 405, 1222), (419, 87, 1226), (189, 121, 1228), (192, 406, 1229), (200, 119, 1241), (203, 177, 1242), (206, 103, 1253), (215, 114, 1261), (227, 411, 1269), (434, 107, 1273), (230, 111, 1275), (233, 413, 1283), (439, 104, 1287), (239, 106, 1289), (245, 89, 1297), (254, 120, 1305), (258, 117, 1313), (261, 113, 1321), (264, 110, 1329), (267, 105, 1337), (272, 100, 1352), (285, 38, 1399), (301, 206, 1407), (304, 205, 1408), (315, 115, 1417), (327, 186, 1418), (341, 211, 1427), (344, 204, 1431), (363, 92, 1449), (368, 432, 1458), (371, 101, 1463), (375, 50, 1485), (380, 88, 1501), (387, 224, 1518), (402, 236, 1537), (416, 241, 1570)]
def gb_lkX11 : List (Nat × Nat) := [(16, 246), (28, 52), (115, 46), (122, 47), (125, 53), (131, 77), (134, 20), (138, 83), (150, 123), (157, 22), (161, 19), (164, 79), (167, 78), (211, 122), (248, 187), (251, 51), (222, 1), (196, 94), (391, 16), (396, 228), (399, 231), (106, 6), (176, 402), (424, 41), (179, 403), (429, 84), (182, 86), (186, 405), (419, 87), (189, 121), (192, 406), (200, 119), (203, 177), (206, 103), (215, 114), (227, 411), (434, 107), (230, 111), (233, 413), (439, 104), (239, 106), (245, 89), (254, 120), (258, 117), (261, 113), (264, 110), (267, 105), (272, 100), (285, 38), (301, 206), (304, 205), (315, 115), (327, 186), (341, 211), (344, 204), (363, 92), (368, 432), (371, 101), (375, 50), (380, 88), (387, 224), (402, 236), (416, 241)]
def gb_lnX11 : List (Nat × Nat) := []
theorem gb_nX11 : gb_Ln RX11 gb_lkX11 gb_lnX11 := ⟨gb_lk_ok (L := gb_lxX11) (by decide +kernel), (fun _ h => nomatch h)⟩
def gb_fxX12 : List ((Nat × Nat × Nat) × Nat) := [((7, 12, 0), 1589), ((13, 12, 1), 1590), ((16, 12, 2), 1591), ((19, 12, 3), 1592), ((22, 12, 4), 1593), ((60, 12, 5), 1594), ((45, 12, 6), 1595), ((25, 12, 7), 1596), ((28, 12, 8), 1597), ((131, 12, 9), 1598), ((134, 12, 10), 1599), ((31, 12, 11), 1600), ((201, 12, 12), 1601), ((224, 12, 13), 1602), ((221, 12, 14), 1603), ((207, 12, 15), 1604), ((233, 12, 16), 1605), ((35, 12, 17), 1606), ((39, 12, 18), 1607), ((368, 12, 19), 1608)]
def gb_flX12 : List (Nat × Nat × Nat) := [(7, 12, 0), (13, 12, 1), (16, 12, 2), (19, 12, 3), (22, 12, 4), (60, 12, 5), (45, 12, 6), (25, 12, 7), (28, 12, 8), (131, 12, 9), (134, 12, 10), (31, 12, 11), (201, 12, 12), (224, 12, 13), (221, 12, 14), (207, 12, 15), (233, 12, 16), (35, 12, 17), (39, 12, 18), (368, 12, 19)]
def gb_slX12 : List (Nat × Nat) := [(288, 38), (274, 39), (290, 40), (280, 41), (299, 42), (301, 43), (303, 44), (308, 45), (310, 46), (312, 47), (314, 48), (316, 49), (318, 50), (320, 51), (322, 52), (324, 53)]
def gb_nlX12 : List (Nat × Int32) := []
def gb_llX12 : List (Nat × Int32) := [(213, 97), (215, 122), (217, 48), (219, 57), (247, 100000000), (249, 10), (345, 9), (353, 6), (355, 2), (360, 3)]
def gb_tlX12 : List (Nat × Nat × Nat) := []
theorem gb_oX12 : gb_Own RX12 gb_flX12 gb_slX12 gb_nlX12 gb_llX12 gb_tlX12 := ⟨gb_fl_ok (L := gb_fxX12) (by decide +kernel), (fun q hq => gb_sto_at (List.all_eq_true.mp (show gb_slX12.all (gb_sto RX12) = true by decide +kernel) q hq)), (fun _ h => nomatch h), (fun q hq => gb_in_at (List.all_eq_true.mp (show gb_llX12.all (fun q => gb_in (.constantLong RX12 q.1 q.2.toInt64)) = true by decide +kernel) q hq)), (fun _ h => nomatch h)⟩
def gb_lxX12 : List (Nat × Nat × Nat) := [(42, 74, 1581), (56, 73, 1585), (70, 8, 1658), (146, 154, 1670), (48, 10, 1674), (149, 158, 1677), (152, 173, 1681), (156, 174, 1685), (63, 125, 1689), (67, 126, 1692), (159, 165, 1696), (91, 138, 1700), (137, 160, 1704), (163, 129, 1712), (166, 157, 1716), (82, 145, 1720), (74, 130, 1724), (101, 139, 1728), (94, 69, 1732), (104, 143, 1735), (107, 137, 1739), (78, 132, 1743), (111, 148, 1747), (85, 146, 1751), (88, 147, 1755), (169, 164, 1759), (173, 156, 1767), (114, 155, 1771), (140, 153, 1779), (124, 144, 1787), (143, 162, 1791), (176, 163, 1799), (179, 142, 1807), (117, 141, 1811), (182, 161, 1815), (186, 135, 1823), (52, 134, 1827), (189, 140, 1831), (121, 136, 1835), (192, 131, 1843), (195, 133, 1847), (198, 190, 1859), (98, 189, 1863), (204, 7, 1871), (285, 59, 1883), (244, 58, 1887), (210, 55, 1891), (227, 56, 1895), (230, 57, 1901), (276, 63, 1908), (264, 60, 1912), (236, 4, 1916), (240, 5, 1917), (251, 62, 1918), (261, 61, 1922), (271, 66, 1926), (258, 65, 1930), (254, 64, 1934), (292, 68, 1942), (268, 67, 1946), (296, 70, 1950), (305, 72, 1958), (282, 71, 1962), (338, 167, 1978), (326, 127, 1982), (329, 128, 1995), (332, 159, 1999), (335, 166, 2003), (341, 200, 2043), (347, 208, 2060), (350, 207, 2064), (357, 215, 2090), (362, 221, 2115), (365, 225, 2127), (374, 238, 2147), (371, 237, 2151)]
def gb_lkX12 : List (Nat × Nat) := [(42, 74), (56, 73), (70, 8), (146, 154), (48, 10), (149, 158), (152, 173), (156, 174), (63, 125), (67, 126), (159, 165), (91, 138), (137, 160), (163, 129), (166, 157), (82, 145), (74, 130), (101, 139), (94, 69), (104, 143), (107, 137), (78, 132), (111, 148), (85, 146), (88, 147), (169, 164), (173, 156), (114, 155), (140, 153), (124, 144), (143, 162), (176, 163), (179, 142), (117, 141), (182, 161), (186, 135), (52, 134), (189, 140), (121, 136), (192, 131), (195, 133), (198, 190), (98, 189), (204, 7), (285, 59), (244, 58), (210, 55), (227, 56), (230, 57), (276, 63), (264, 60), (236, 4), (240, 5), (251, 62), (261, 61), (271, 66), (258, 65), (254, 64), (292, 68), (268, 67), (296, 70), (305, 72), (282, 71), (338, 167), (326, 127), (329, 128), (332, 159), (335, 166), (341, 200), (347, 208), (350, 207), (357, 215), (362, 221), (365, 225), (374, 238), (371, 237)]
def gb_lnX12 : List (Nat × Nat) := []
theorem gb_nX12 : gb_Ln RX12 gb_lkX12 gb_lnX12 := ⟨gb_lk_ok (L := gb_lxX12) (by decide +kernel), (fun _ h => nomatch h)⟩
end GB8
