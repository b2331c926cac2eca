noncomputable section
/-! ===== the methods by number; what the tables say of them and of the constant pools ===== -/
noncomputable def gb_tabA0 : List (MethodName × ByteArray × Nat × Option FieldType × Nat × Nat × Nat × Nat) := [
  (yX6_at, cX6_at, 2, (some .int), 0, 0, 1, 6),
  (yX6_put, cX6_put, 3, none, 0, 0, 2, 6),
  (yX6_become, cX6_become, 3, none, 1, 0, 1, 6),
  (yJ0_length_8abf5, cJ0_length_8abf5, 1, (some .int), 2, 2, 0, 99),
  (yJ0_charAt_5068e, cJ0_charAt_5068e, 2, (some .char), 4, 2, 1, 99),
  (yX10_append, cX10_append, 3, none, 1, 0, 1, 10),
  (yX7_becomeEmpty, cX7_becomeEmpty, 1, none, 0, 0, 0, 7),
  (yX10_afterBlanks, cX10_afterBlanks, 3, (some .int), 1, 0, 1, 10),
  (yX10_isLetter, cX10_isLetter, 1, (some .boolean), 0, 1, 1, 10),
  (yX10_isDigit, cX10_isDigit, 1, (some .boolean), 0, 1, 1, 10),
  (yJ9_min_7cf53, cJ9_min_7cf53, 2, (some .int), 0, 3, 2, 99),
  (yX10_afterDigits, cX10_afterDigits, 3, (some .int), 1, 0, 1, 10)]
noncomputable def gb_tabA1 : List (MethodName × ByteArray × Nat × Option FieldType × Nat × Nat × Nat × Nat) := [
  (yX10_afterLetters, cX10_afterLetters, 3, (some .int), 1, 0, 1, 10),
  (yX10_next, cX10_next, 2, none, 2, 0, 0, 10),
  (yX10_begin, cX10_begin, 1, none, 3, 0, 0, 10),
  (yX10_isWord, cX10_isWord, 3, (some .boolean), 5, 0, 1, 10),
  (yX10_fail, cX10_fail, 3, (some .boolean), 0, 0, 2, 10),
  (yX8_fail, cX8_fail, 2, (some .boolean), 1, 0, 1, 8),
  (yX8_takeWord, cX8_takeWord, 2, (some .boolean), 6, 0, 1, 8),
  (yX8_checkNumber, cX8_checkNumber, 3, (some .boolean), 2, 0, 2, 8),
  (yX8_takeNumber, cX8_takeNumber, 2, (some .int), 3, 0, 0, 8),
  (yX8_takeSemicolon, cX8_takeSemicolon, 1, (some .boolean), 3, 0, 0, 8),
  (yX8_readGrid, cX8_readGrid, 1, (some .boolean), 7, 0, 0, 8),
  (yX7_addSubject, cX7_addSubject, 2, none, 1, 0, 1, 7)]
noncomputable def gb_tabA2 : List (MethodName × ByteArray × Nat × Option FieldType × Nat × Nat × Nat × Nat) := [
  (yX8_readSubjects, cX8_readSubjects, 2, (some .boolean), 7, 0, 0, 8),
  (yX7_addTeacher, cX7_addTeacher, 3, none, 1, 0, 2, 7),
  (yX11_hasBit, cX11_hasBit, 2, (some .boolean), 0, 1, 2, 11),
  (yX8_readTeacher, cX8_readTeacher, 4, (some .boolean), 4, 0, 0, 8),
  (yX8_readTeachers, cX8_readTeachers, 2, (some .boolean), 7, 0, 0, 8),
  (yX7_addRoom, cX7_addRoom, 2, none, 1, 0, 1, 7),
  (yX8_readRooms, cX8_readRooms, 2, (some .boolean), 7, 0, 0, 8),
  (yX8_readClasses, cX8_readClasses, 1, (some .boolean), 7, 0, 0, 8),
  (yX7_slots, cX7_slots, 1, (some .int), 0, 0, 0, 7),
  (yX7_isTakenAtFirst, cX7_isTakenAtFirst, 5, (some .boolean), 1, 0, 3, 7),
  (yX8_checkUntaken, cX8_checkUntaken, 4, (some .boolean), 3, 0, 3, 8),
  (yX7_hasTeacher, cX7_hasTeacher, 2, (some .boolean), 0, 0, 1, 7)]
noncomputable def gb_tabA3 : List (MethodName × ByteArray × Nat × Option FieldType × Nat × Nat × Nat × Nat) := [
  (yX7_isQualified, cX7_isQualified, 3, (some .boolean), 1, 0, 2, 7),
  (yX7_addLesson, cX7_addLesson, 6, none, 1, 0, 5, 7),
  (yX8_readLesson, cX8_readLesson, 5, (some .boolean), 4, 0, 0, 8),
  (yX8_readLessons, cX8_readLessons, 2, (some .boolean), 6, 0, 0, 8),
  (yX8_read, cX8_read, 1, (some .boolean), 8, 0, 0, 8),
  (yX7_become, cX7_become, 2, none, 2, 0, 1, 7),
  (yX7_dayOf, cX7_dayOf, 2, (some .int), 0, 0, 1, 7),
  (yX3_isAway, cX3_isAway, 3, (some .boolean), 1, 0, 2, 3),
  (yX3_isAwayAt, cX3_isAwayAt, 3, (some .boolean), 2, 0, 2, 3),
  (yX3_returnToFirst, cX3_returnToFirst, 4, none, 3, 0, 0, 3),
  (yX3_begin, cX3_begin, 2, none, 4, 0, 0, 3),
  (yX1_forget, cX1_forget, 1, none, 0, 0, 0, 1)]
noncomputable def gb_tabA4 : List (MethodName × ByteArray × Nat × Option FieldType × Nat × Nat × Nat × Nat) := [
  (yX11_parseSchool, cX11_parseSchool, 2, (some .int), 9, 0, 0, 11),
  (yX7_hasDay, cX7_hasDay, 2, (some .boolean), 0, 0, 1, 7),
  (yX1_baseOf, cX1_baseOf, 2, (some .int), 0, 0, 1, 1),
  (yX1_mark, cX1_mark, 3, none, 1, 0, 0, 1),
  (yX3_makeOpen, cX3_makeOpen, 2, none, 1, 0, 1, 3),
  (yX2_letBeAbsent, cX2_letBeAbsent, 7, (some .int), 2, 0, 3, 2),
  (yX1_keepMarked, cX1_keepMarked, 1, none, 0, 0, 0, 1),
  (yX7_hasLesson, cX7_hasLesson, 2, (some .boolean), 0, 0, 1, 7),
  (yX3_isTaught, cX3_isTaught, 2, (some .boolean), 1, 0, 1, 3),
  (yX3_lessonAt, cX3_lessonAt, 5, (some .int), 1, 0, 3, 3),
  (yX4_isBusy, cX4_isBusy, 3, (some .boolean), 2, 0, 2, 4),
  (yX3_loadOf, cX3_loadOf, 4, (some .int), 1, 0, 1, 3)]
noncomputable def gb_tabA5 : List (MethodName × ByteArray × Nat × Option FieldType × Nat × Nat × Nat × Nat) := [
  (yX4_againstCover, cX4_againstCover, 4, (some .int), 3, 0, 2, 4),
  (yX3_letTeach, cX3_letTeach, 3, none, 1, 0, 2, 3),
  (yX2_letCover, cX2_letCover, 3, (some .boolean), 4, 0, 2, 2),
  (yX3_isOpen, cX3_isOpen, 2, (some .boolean), 1, 0, 1, 3),
  (yX3_isSupervised, cX3_isSupervised, 2, (some .boolean), 1, 0, 1, 3),
  (yX3_dutiesOn, cX3_dutiesOn, 5, (some .int), 2, 0, 2, 3),
  (yX4_againstSupervision, cX4_againstSupervision, 4, (some .int), 3, 0, 2, 4),
  (yX3_letWatch, cX3_letWatch, 3, none, 1, 0, 2, 3),
  (yX2_letSupervise, cX2_letSupervise, 3, (some .boolean), 4, 0, 2, 2),
  (yX3_dutiesOf, cX3_dutiesOf, 4, (some .int), 2, 0, 1, 3),
  (yX0_presentAt, cX0_presentAt, 5, (some .int), 2, 0, 1, 0),
  (yX7_qualifiedFor, cX7_qualifiedFor, 4, (some .int), 1, 0, 1, 7)]
noncomputable def gb_tabA6 : List (MethodName × ByteArray × Nat × Option FieldType × Nat × Nat × Nat × Nat) := [
  (yX0_busyAt, cX0_busyAt, 5, (some .int), 2, 0, 2, 0),
  (yX0_leastLoaded, cX0_leastLoaded, 6, (some .int), 2, 0, 1, 0),
  (yX0_successorsOf, cX0_successorsOf, 4, (some .int), 1, 0, 1, 0),
  (yX0_thoseBefore, cX0_thoseBefore, 5, (some .int), 1, 0, 2, 0),
  (yX0_lowest, cX0_lowest, 3, (some .int), 1, 0, 1, 0),
  (yX0_choose, cX0_choose, 5, none, 2, 0, 1, 0),
  (yX0_find, cX0_find, 8, (some .int), 3, 0, 1, 0),
  (yX2_repairByChain, cX2_repairByChain, 8, (some .boolean), 4, 0, 1, 2),
  (yX2_repairOpenLessons, cX2_repairOpenLessons, 3, (some .int), 5, 0, 0, 2),
  (yX11_repairAll, cX11_repairAll, 2, (some .int), 6, 0, 0, 11),
  (yX4_isTeacherAwayAt, cX4_isTeacherAwayAt, 3, (some .boolean), 3, 0, 2, 4),
  (yX4_isHeldByThird, cX4_isHeldByThird, 5, (some .boolean), 2, 0, 3, 4)]
noncomputable def gb_tabA7 : List (MethodName × ByteArray × Nat × Option FieldType × Nat × Nat × Nat × Nat) := [
  (yX4_againstExchange, cX4_againstExchange, 3, (some .int), 4, 0, 2, 4),
  (yX2_swapSlots, cX2_swapSlots, 4, (some .boolean), 5, 0, 2, 2),
  (yX7_hasSlot, cX7_hasSlot, 2, (some .boolean), 1, 0, 1, 7),
  (yX4_againstMove, cX4_againstMove, 3, (some .int), 4, 0, 2, 4),
  (yX2_moveToSlot, cX2_moveToSlot, 3, (some .boolean), 5, 0, 2, 2),
  (yX7_hasRoom, cX7_hasRoom, 2, (some .boolean), 0, 0, 1, 7),
  (yX4_againstRoom, cX4_againstRoom, 3, (some .int), 2, 0, 2, 4),
  (yX2_moveToRoom, cX2_moveToRoom, 3, (some .boolean), 3, 0, 2, 2),
  (yX2_openAgain, cX2_openAgain, 2, (some .boolean), 2, 0, 1, 2),
  (yX3_differs, cX3_differs, 2, (some .boolean), 2, 0, 1, 3),
  (yX3_differingLessons, cX3_differingLessons, 3, (some .int), 3, 0, 0, 3),
  (yX11_reset, cX11_reset, 2, (some .int), 4, 0, 0, 11)]
noncomputable def gb_tabA8 : List (MethodName × ByteArray × Nat × Option FieldType × Nat × Nat × Nat × Nat) := [
  (yX7_lessonsWith, cX7_lessonsWith, 5, (some .int), 1, 0, 2, 7),
  (yX3_supervisedLessons, cX3_supervisedLessons, 1, (some .int), 2, 0, 0, 3),
  (yX3_openLessons, cX3_openLessons, 1, (some .int), 2, 0, 0, 3),
  (yX3_taughtBy, cX3_taughtBy, 4, (some .int), 1, 0, 1, 3),
  (yX3_windowsOf, cX3_windowsOf, 8, (some .int), 2, 0, 3, 3),
  (yJ9_max_7cf53, cJ9_max_7cf53, 2, (some .int), 0, 3, 2, 99),
  (yX11_spread, cX11_spread, 6, (some .int), 2, 0, 0, 11),
  (yX3_taughtLessons, cX3_taughtLessons, 1, (some .int), 3, 0, 0, 3),
  (yX11_taughtShare, cX11_taughtShare, 1, (some .double), 4, 0, 0, 11),
  (yX5_append, cX5_append, 2, none, 1, 0, 1, 5),
  (yX5_writeLesson, cX5_writeLesson, 2, none, 2, 0, 1, 5),
  (yX5_write, cX5_write, 4, none, 3, 0, 1, 5)]
noncomputable def gb_tabA9 : List (MethodName × ByteArray × Nat × Option FieldType × Nat × Nat × Nat × Nat) := [
  (yX1_restoreMarked, cX1_restoreMarked, 3, none, 1, 0, 0, 1),
  (yX1_restoreLatest, cX1_restoreLatest, 1, none, 2, 0, 0, 1),
  (yX11_undoDepth, cX11_undoDepth, 1, (some .int), 0, 0, 0, 11),
  (yX7_becomeSample, cX7_becomeSample, 1, none, 2, 0, 0, 7)]
noncomputable def gb_tabA : List (MethodName × ByteArray × Nat × Option FieldType × Nat × Nat × Nat × Nat) := gb_tabA0 ++ (gb_tabA1 ++ (gb_tabA2 ++ (gb_tabA3 ++ (gb_tabA4 ++ (gb_tabA5 ++ (gb_tabA6 ++ (gb_tabA7 ++ (gb_tabA8 ++ (gb_tabA9)))))))))
noncomputable def gb_tabB0 : List (MethodName × ByteArray × Nat × Option FieldType × Nat × Nat × Nat × Nat) := [
  (yX11_appendText, cX11_appendText, 6, (some .int), 5, 0, 5, 11),
  (yX11_truncateText, cX11_truncateText, 2, (some .int), 5, 0, 1, 11),
  (yX11_requireTeacher, cX11_requireTeacher, 2, none, 5, 0, 1, 11),
  (yX11_requireDay, cX11_requireDay, 2, none, 5, 0, 1, 11),
  (yX11_setAbsent, cX11_setAbsent, 5, (some .int), 6, 0, 3, 11),
  (yX11_requireLesson, cX11_requireLesson, 2, none, 5, 0, 1, 11),
  (yX11_keepUnlessRefused, cX11_keepUnlessRefused, 2, none, 5, 0, 1, 11),
  (yX11_cover, cX11_cover, 3, (some .int), 6, 0, 2, 11),
  (yX11_supervise, cX11_supervise, 3, (some .int), 6, 0, 2, 11),
  (yX11_repair, cX11_repair, 2, (some .int), 6, 0, 1, 11),
  (yX11_exchange, cX11_exchange, 3, (some .int), 6, 0, 2, 11),
  (yX11_requireSlot, cX11_requireSlot, 2, none, 5, 0, 1, 11)]
noncomputable def gb_tabB1 : List (MethodName × ByteArray × Nat × Option FieldType × Nat × Nat × Nat × Nat) := [
  (yX11_move, cX11_move, 4, (some .int), 6, 0, 2, 11),
  (yX11_requireRoom, cX11_requireRoom, 2, none, 5, 0, 1, 11),
  (yX11_setRoom, cX11_setRoom, 4, (some .int), 6, 0, 2, 11),
  (yX11_reopen, cX11_reopen, 3, (some .int), 6, 0, 1, 11),
  (yX11_whyNotCover, cX11_whyNotCover, 3, (some .int), 6, 0, 2, 11),
  (yX11_whyNotSupervise, cX11_whyNotSupervise, 3, (some .int), 6, 0, 2, 11),
  (yX11_whyNotExchange, cX11_whyNotExchange, 3, (some .int), 6, 0, 2, 11),
  (yX11_whyNotRoom, cX11_whyNotRoom, 3, (some .int), 6, 0, 2, 11),
  (yX11_candidates, cX11_candidates, 4, (some .int), 6, 0, 1, 11),
  (yX11_chain, cX11_chain, 2, (some .int), 6, 0, 1, 11),
  (yX11_chainTeacher, cX11_chainTeacher, 4, (some .int), 6, 0, 2, 11),
  (yX11_slotsFor, cX11_slotsFor, 4, (some .int), 6, 0, 1, 11)]
noncomputable def gb_tabB2 : List (MethodName × ByteArray × Nat × Option FieldType × Nat × Nat × Nat × Nat) := [
  (yX11_count, cX11_count, 2, (some .int), 5, 0, 1, 11),
  (yX11_lesson, cX11_lesson, 3, (some .int), 6, 0, 2, 11),
  (yX11_teacher, cX11_teacher, 3, (some .int), 6, 0, 2, 11),
  (yX11_room, cX11_room, 3, (some .int), 6, 0, 2, 11),
  (yX11_subject, cX11_subject, 3, (some .int), 5, 0, 2, 11),
  (yX11_requireClass, cX11_requireClass, 2, none, 5, 0, 1, 11),
  (yX11_lessonOfClass, cX11_lessonOfClass, 3, (some .int), 6, 0, 2, 11),
  (yX11_lessonOfTeacher, cX11_lessonOfTeacher, 3, (some .int), 6, 0, 2, 11),
  (yX11_lessonInRoom, cX11_lessonInRoom, 3, (some .int), 6, 0, 2, 11),
  (yX11_freeTeachers, cX11_freeTeachers, 4, (some .int), 6, 0, 1, 11),
  (yX11_freeRooms, cX11_freeRooms, 5, (some .int), 6, 0, 2, 11),
  (yX11_windows, cX11_windows, 3, (some .int), 6, 0, 2, 11)]
noncomputable def gb_tabB3 : List (MethodName × ByteArray × Nat × Option FieldType × Nat × Nat × Nat × Nat) := [
  (yX11_writeReport, cX11_writeReport, 2, (some .int), 6, 0, 1, 11),
  (yX11_undo, cX11_undo, 1, (some .int), 5, 0, 0, 11),
  (yL_cover, cL_cover, 4, (some .int), 7, 1, 3, 99),
  (yL_supervise, cL_supervise, 4, (some .int), 7, 1, 3, 99),
  (yL_repair, cL_repair, 3, (some .int), 7, 1, 2, 99),
  (yL_exchange, cL_exchange, 4, (some .int), 7, 1, 3, 99),
  (yL_move, cL_move, 4, (some .int), 7, 1, 3, 99),
  (yL_setRoom, cL_setRoom, 4, (some .int), 7, 1, 3, 99),
  (yL_reopen, cL_reopen, 3, (some .int), 7, 1, 2, 99),
  (⟨"", "", ""⟩, ⟨#[]⟩, 0, none, 0, 9, 0, 99),
  (⟨"", "", ""⟩, ⟨#[]⟩, 0, none, 0, 9, 0, 99),
  (⟨"", "", ""⟩, ⟨#[]⟩, 0, none, 0, 9, 0, 99)]
noncomputable def gb_tabB4 : List (MethodName × ByteArray × Nat × Option FieldType × Nat × Nat × Nat × Nat) := [
  (⟨"", "", ""⟩, ⟨#[]⟩, 0, none, 0, 9, 0, 99),
  (⟨"", "", ""⟩, ⟨#[]⟩, 0, none, 0, 9, 0, 99),
  (⟨"", "", ""⟩, ⟨#[]⟩, 0, none, 0, 9, 0, 99),
  (⟨"", "", ""⟩, ⟨#[]⟩, 0, none, 0, 9, 0, 99),
  (⟨"", "", ""⟩, ⟨#[]⟩, 0, none, 0, 9, 0, 99),
  (⟨"", "", ""⟩, ⟨#[]⟩, 0, none, 0, 9, 0, 99),
  (⟨"", "", ""⟩, ⟨#[]⟩, 0, none, 0, 9, 0, 99),
  (⟨"", "", ""⟩, ⟨#[]⟩, 0, none, 0, 9, 0, 99),
  (⟨"", "", ""⟩, ⟨#[]⟩, 0, none, 0, 9, 0, 99),
  (yL_cell, cL_cell, 2, (some .int), 0, 1, 2, 99),
  (yL_type, cL_type, 5, none, 6, 1, 2, 99),
  (yL_holds, cL_holds, 12, (some .boolean), 7, 1, 1, 99)]
noncomputable def gb_tabB : List (MethodName × ByteArray × Nat × Option FieldType × Nat × Nat × Nat × Nat) := gb_tabB0 ++ (gb_tabB1 ++ (gb_tabB2 ++ (gb_tabB3 ++ (gb_tabB4))))
def gb_tb (mid : Nat) : MethodName × ByteArray × Nat × Option FieldType × Nat × Nat × Nat × Nat := bif Nat.blt mid 400 then gb_tabA.getD (mid - 1) (⟨"", "", ""⟩, ⟨#[]⟩, 0, none, 0, 9, 0, 99) else gb_tabB.getD (mid - 400) (⟨"", "", ""⟩, ⟨#[]⟩, 0, none, 0, 9, 0, 99)
def gb_y (mid : Nat) : MethodName := (gb_tb mid).1
def gb_b (mid : Nat) : ByteArray := (gb_tb mid).2.1
def gb_n (mid : Nat) : Nat := (gb_tb mid).2.2.1
def gb_r (mid : Nat) : Option FieldType := (gb_tb mid).2.2.2.1
def gb_lv (mid : Nat) : Nat := (gb_tb mid).2.2.2.2.1
def gb_ki (mid : Nat) : Nat := (gb_tb mid).2.2.2.2.2.1
def gb_ar (mid : Nat) : Nat := (gb_tb mid).2.2.2.2.2.2.1
def gb_ci (mid : Nat) : Nat := (gb_tb mid).2.2.2.2.2.2.2
section GB8
theorem gb_wt {w : Cond} (h : w ∈ tables_1) (g : goodWord w = true) : w ∈ gb_good := List.mem_filter.mpr ⟨List.mem_append_right _ h, g⟩
theorem gb_w1 (i : Nat) {w : Cond} (h : tables_1_1[i]? = some w) (g : goodWord w = true) : w ∈ gb_good := gb_wt (List.mem_append_left _ (List.mem_of_getElem? h)) g
theorem gb_w2 (i : Nat) {w : Cond} (h : tables_1_2[i]? = some w) (g : goodWord w = true) : w ∈ gb_good := gb_wt (List.mem_append_right _ (List.mem_append_left _ (List.mem_of_getElem? h))) g
theorem gb_w3 (i : Nat) {w : Cond} (h : tables_1_3[i]? = some w) (g : goodWord w = true) : w ∈ gb_good := gb_wt (List.mem_append_right _ (List.mem_append_right _ (List.mem_append_left _ (List.mem_of_getElem? h)))) g
theorem gb_w4 (i : Nat) {w : Cond} (h : tables_1_4[i]? = some w) (g : goodWord w = true) : w ∈ gb_good := gb_wt (List.mem_append_right _ (List.mem_append_right _ (List.mem_append_right _ (List.mem_append_left _ (List.mem_of_getElem? h))))) g
theorem gb_w5 (i : Nat) {w : Cond} (h : tables_1_5[i]? = some w) (g : goodWord w = true) : w ∈ gb_good := gb_wt (List.mem_append_right _ (List.mem_append_right _ (List.mem_append_right _ (List.mem_append_right _ (List.mem_append_left _ (List.mem_of_getElem? h)))))) g
theorem gb_w6 (i : Nat) {w : Cond} (h : tables_1_6[i]? = some w) (g : goodWord w = true) : w ∈ gb_good := gb_wt (List.mem_append_right _ (List.mem_append_right _ (List.mem_append_right _ (List.mem_append_right _ (List.mem_append_right _ (List.mem_of_getElem? h)))))) g
/-- a method's words -/
def gb_Tb (mid : Nat) : Prop := Cond.code (gb_y mid) (gb_b mid) (gb_n mid) (gb_r mid) ∈ gb_good ∧ Cond.initialized (gb_y mid).cls ∈ gb_good ∧ ((gb_y mid).cls ≠ "java/lang/invoke/MethodHandle" ∧ (gb_y mid).cls ≠ "java/lang/invoke/VarHandle") ∧ (parseMethodDescriptor (gb_y mid).desc).map (fun d => d.parameters.length) = some (gb_ar mid) ∧ gb_n mid ≤ 14 ∧
  (gb_ki mid = 0 → Cond.instanceMethod (gb_y mid) ∈ gb_good ∧ Cond.selects (gb_y mid).cls (gb_y mid) (gb_y mid) ∈ gb_good ∧ ∃ T N, vwCl[gb_ci mid]? = some ((gb_y mid).cls, T, N)) ∧ (gb_ki mid = 1 → Cond.static (gb_y mid) ∈ gb_good) ∧
  (gb_ki mid = 2 → Cond.instanceMethod (gb_y mid) ∈ gb_good ∧ Cond.selects (gb_y mid).cls (gb_y mid) (gb_y mid) ∈ gb_good ∧ (gb_y mid).cls = "java/lang/String")
def gb_Nm (C : String) : Prop := C ≠ "java/lang/invoke/MethodHandle" ∧ C ≠ "java/lang/invoke/VarHandle"
theorem gb_nmJ0 : gb_Nm RJ0 := by unfold gb_Nm; decide +kernel
theorem gb_nmJ9 : gb_Nm RJ9 := by unfold gb_Nm; decide +kernel
theorem gb_nmL : gb_Nm RL := by unfold gb_Nm; decide +kernel
theorem gb_nmX0 : gb_Nm RX0 := by unfold gb_Nm; decide +kernel
theorem gb_nmX1 : gb_Nm RX1 := by unfold gb_Nm; decide +kernel
theorem gb_nmX10 : gb_Nm RX10 := by unfold gb_Nm; decide +kernel
theorem gb_nmX11 : gb_Nm RX11 := by unfold gb_Nm; decide +kernel
theorem gb_nmX2 : gb_Nm RX2 := by unfold gb_Nm; decide +kernel
theorem gb_nmX3 : gb_Nm RX3 := by unfold gb_Nm; decide +kernel
theorem gb_nmX4 : gb_Nm RX4 := by unfold gb_Nm; decide +kernel
theorem gb_nmX5 : gb_Nm RX5 := by unfold gb_Nm; decide +kernel
theorem gb_nmX6 : gb_Nm RX6 := by unfold gb_Nm; decide +kernel
theorem gb_nmX7 : gb_Nm RX7 := by unfold gb_Nm; decide +kernel
theorem gb_nmX8 : gb_Nm RX8 := by unfold gb_Nm; decide +kernel
theorem gb_de0 : (parseMethodDescriptor "(I)I").map (fun d => d.parameters.length) = some 1 := by decide +kernel
theorem gb_de1 : (parseMethodDescriptor "(II)V").map (fun d => d.parameters.length) = some 2 := by decide +kernel
theorem gb_de2 : (parseMethodDescriptor "(LSubstituteDesk$Row;)V").map (fun d => d.parameters.length) = some 1 := by decide +kernel
theorem gb_de3 : (parseMethodDescriptor "()I").map (fun d => d.parameters.length) = some 0 := by decide +kernel
theorem gb_de4 : (parseMethodDescriptor "(I)C").map (fun d => d.parameters.length) = some 1 := by decide +kernel
theorem gb_de5 : (parseMethodDescriptor "(I)V").map (fun d => d.parameters.length) = some 1 := by decide +kernel
theorem gb_de6 : (parseMethodDescriptor "(IIIII)I").map (fun d => d.parameters.length) = some 5 := by decide +kernel
theorem gb_de7 : (parseMethodDescriptor "()V").map (fun d => d.parameters.length) = some 0 := by decide +kernel
theorem gb_de8 : (parseMethodDescriptor "(I)Z").map (fun d => d.parameters.length) = some 1 := by decide +kernel
theorem gb_de9 : (parseMethodDescriptor "(II)I").map (fun d => d.parameters.length) = some 2 := by decide +kernel
theorem gb_de10 : (parseMethodDescriptor "(Ljava/lang/String;)Z").map (fun d => d.parameters.length) = some 1 := by decide +kernel
theorem gb_de11 : (parseMethodDescriptor "(II)Z").map (fun d => d.parameters.length) = some 2 := by decide +kernel
theorem gb_de12 : (parseMethodDescriptor "()Z").map (fun d => d.parameters.length) = some 0 := by decide +kernel
theorem gb_de13 : (parseMethodDescriptor "(ILSubstituteDesk$Row;I)Z").map (fun d => d.parameters.length) = some 3 := by decide +kernel
theorem gb_de14 : (parseMethodDescriptor "(IIIII)V").map (fun d => d.parameters.length) = some 5 := by decide +kernel
theorem gb_de15 : (parseMethodDescriptor "(LSubstituteDesk$School;)V").map (fun d => d.parameters.length) = some 1 := by decide +kernel
theorem gb_de16 : (parseMethodDescriptor "(IIZ)I").map (fun d => d.parameters.length) = some 3 := by decide +kernel
theorem gb_de17 : (parseMethodDescriptor "(ILSubstituteDesk$Row;I)I").map (fun d => d.parameters.length) = some 3 := by decide +kernel
theorem gb_de18 : (parseMethodDescriptor "(Z)V").map (fun d => d.parameters.length) = some 1 := by decide +kernel
theorem gb_de19 : (parseMethodDescriptor "(LSubstituteDesk$Row;II)Z").map (fun d => d.parameters.length) = some 3 := by decide +kernel
theorem gb_de20 : (parseMethodDescriptor "(LSubstituteDesk$Row;I)I").map (fun d => d.parameters.length) = some 2 := by decide +kernel
theorem gb_de21 : (parseMethodDescriptor "(LSubstituteDesk$Row;II)I").map (fun d => d.parameters.length) = some 3 := by decide +kernel
theorem gb_de22 : (parseMethodDescriptor "()D").map (fun d => d.parameters.length) = some 0 := by decide +kernel
theorem gb_de23 : (parseMethodDescriptor "(LSubstituteDesk;II)I").map (fun d => d.parameters.length) = some 3 := by decide +kernel
theorem gb_de24 : (parseMethodDescriptor "(LSubstituteDesk;I)I").map (fun d => d.parameters.length) = some 2 := by decide +kernel
theorem gb_de25 : (parseMethodDescriptor "([II)I").map (fun d => d.parameters.length) = some 2 := by decide +kernel
theorem gb_de26 : (parseMethodDescriptor "(LSubstituteDesk;Ljava/lang/String;)V").map (fun d => d.parameters.length) = some 2 := by decide +kernel
theorem gb_de27 : (parseMethodDescriptor "(LSubstituteDesk;)Z").map (fun d => d.parameters.length) = some 1 := by decide +kernel
theorem gb_T1 : gb_Tb 1 := ⟨(gb_w1 231 rfl rfl), (gb_w1 3 rfl rfl), gb_nmX6, gb_de0, (by decide +kernel), (fun _ => ⟨(gb_w1 229 rfl rfl), (gb_w1 230 rfl rfl), _, _, rfl⟩), (fun h => absurd h (by decide +kernel)), (fun h => absurd h (by decide +kernel))⟩
theorem gb_T2 : gb_Tb 2 := ⟨(gb_w1 160 rfl rfl), (gb_w1 3 rfl rfl), gb_nmX6, gb_de1, (by decide +kernel), (fun _ => ⟨(gb_w1 158 rfl rfl), (gb_w1 159 rfl rfl), _, _, rfl⟩), (fun h => absurd h (by decide +kernel)), (fun h => absurd h (by decide +kernel))⟩
theorem gb_T3 : gb_Tb 3 := ⟨(gb_w3 168 rfl rfl), (gb_w1 3 rfl rfl), gb_nmX6, gb_de2, (by decide +kernel), (fun _ => ⟨(gb_w3 166 rfl rfl), (gb_w3 167 rfl rfl), _, _, rfl⟩), (fun h => absurd h (by decide +kernel)), (fun h => absurd h (by decide +kernel))⟩
theorem gb_T4 : gb_Tb 4 := ⟨(gb_w3 34 rfl rfl), (gb_w1 13 rfl rfl), gb_nmJ0, gb_de3, (by decide +kernel), (fun h => absurd h (by decide +kernel)), (fun h => absurd h (by decide +kernel)), (fun _ => ⟨(gb_w3 32 rfl rfl), (gb_w3 33 rfl rfl), rfl⟩)⟩
theorem gb_T5 : gb_Tb 5 := ⟨(gb_w3 44 rfl rfl), (gb_w1 13 rfl rfl), gb_nmJ0, gb_de4, (by decide +kernel), (fun h => absurd h (by decide +kernel)), (fun h => absurd h (by decide +kernel)), (fun _ => ⟨(gb_w3 42 rfl rfl), (gb_w3 43 rfl rfl), rfl⟩)⟩
theorem gb_T6 : gb_Tb 6 := ⟨(gb_w5 170 rfl rfl), (gb_w1 9 rfl rfl), gb_nmX10, gb_de5, (by decide +kernel), (fun _ => ⟨(gb_w5 168 rfl rfl), (gb_w5 169 rfl rfl), _, _, rfl⟩), (fun h => absurd h (by decide +kernel)), (fun h => absurd h (by decide +kernel))⟩
theorem gb_T400 : gb_Tb 400 := ⟨(gb_w5 165 rfl rfl), (gb_w1 1 rfl rfl), gb_nmX11, gb_de6, (by decide +kernel), (fun _ => ⟨(gb_w5 163 rfl rfl), (gb_w5 164 rfl rfl), _, _, rfl⟩), (fun h => absurd h (by decide +kernel)), (fun h => absurd h (by decide +kernel))⟩
theorem gb_T401 : gb_Tb 401 := ⟨(gb_w5 175 rfl rfl), (gb_w1 1 rfl rfl), gb_nmX11, gb_de0, (by decide +kernel), (fun _ => ⟨(gb_w5 173 rfl rfl), (gb_w5 174 rfl rfl), _, _, rfl⟩), (fun h => absurd h (by decide +kernel)), (fun h => absurd h (by decide +kernel))⟩
theorem gb_T7 : gb_Tb 7 := ⟨(gb_w1 152 rfl rfl), (gb_w1 2 rfl rfl), gb_nmX7, gb_de7, (by decide +kernel), (fun _ => ⟨(gb_w1 150 rfl rfl), (gb_w1 151 rfl rfl), _, _, rfl⟩), (fun h => absurd h (by decide +kernel)), (fun h => absurd h (by decide +kernel))⟩
theorem gb_T8 : gb_Tb 8 := ⟨(gb_w2 238 rfl rfl), (gb_w1 9 rfl rfl), gb_nmX10, gb_de0, (by decide +kernel), (fun _ => ⟨(gb_w2 237 rfl rfl), (gb_w 0 rfl rfl), _, _, rfl⟩), (fun h => absurd h (by decide +kernel)), (fun h => absurd h (by decide +kernel))⟩
theorem gb_T9 : gb_Tb 9 := ⟨(gb_w3 2 rfl rfl), (gb_w1 9 rfl rfl), gb_nmX10, gb_de8, (by decide +kernel), (fun h => absurd h (by decide +kernel)), (fun _ => (gb_w3 1 rfl rfl)), (fun h => absurd h (by decide +kernel))⟩
theorem gb_T10 : gb_Tb 10 := ⟨(gb_w3 9 rfl rfl), (gb_w1 9 rfl rfl), gb_nmX10, gb_de8, (by decide +kernel), (fun h => absurd h (by decide +kernel)), (fun _ => (gb_w3 8 rfl rfl)), (fun h => absurd h (by decide +kernel))⟩
theorem gb_T11 : gb_Tb 11 := ⟨(gb_w3 17 rfl rfl), (gb_w1 22 rfl rfl), gb_nmJ9, gb_de9, (by decide +kernel), (fun h => absurd h (by decide +kernel)), (fun h => absurd h (by decide +kernel)), (fun h => absurd h (by decide +kernel))⟩
theorem gb_T12 : gb_Tb 12 := ⟨(gb_w3 13 rfl rfl), (gb_w1 9 rfl rfl), gb_nmX10, gb_de0, (by decide +kernel), (fun _ => ⟨(gb_w3 12 rfl rfl), (gb_w 2 rfl rfl), _, _, rfl⟩), (fun h => absurd h (by decide +kernel)), (fun h => absurd h (by decide +kernel))⟩
theorem gb_T13 : gb_Tb 13 := ⟨(gb_w3 6 rfl rfl), (gb_w1 9 rfl rfl), gb_nmX10, gb_de0, (by decide +kernel), (fun _ => ⟨(gb_w3 5 rfl rfl), (gb_w 1 rfl rfl), _, _, rfl⟩), (fun h => absurd h (by decide +kernel)), (fun h => absurd h (by decide +kernel))⟩
theorem gb_T14 : gb_Tb 14 := ⟨(gb_w2 234 rfl rfl), (gb_w1 9 rfl rfl), gb_nmX10, gb_de7, (by decide +kernel), (fun _ => ⟨(gb_w2 232 rfl rfl), (gb_w2 233 rfl rfl), _, _, rfl⟩), (fun h => absurd h (by decide +kernel)), (fun h => absurd h (by decide +kernel))⟩
theorem gb_T15 : gb_Tb 15 := ⟨(gb_w2 230 rfl rfl), (gb_w1 9 rfl rfl), gb_nmX10, gb_de7, (by decide +kernel), (fun _ => ⟨(gb_w2 228 rfl rfl), (gb_w2 229 rfl rfl), _, _, rfl⟩), (fun h => absurd h (by decide +kernel)), (fun h => absurd h (by decide +kernel))⟩
theorem gb_T16 : gb_Tb 16 := ⟨(gb_w3 30 rfl rfl), (gb_w1 9 rfl rfl), gb_nmX10, gb_de10, (by decide +kernel), (fun _ => ⟨(gb_w3 28 rfl rfl), (gb_w3 29 rfl rfl), _, _, rfl⟩), (fun h => absurd h (by decide +kernel)), (fun h => absurd h (by decide +kernel))⟩
theorem gb_T17 : gb_Tb 17 := ⟨(gb_w3 86 rfl rfl), (gb_w1 9 rfl rfl), gb_nmX10, gb_de11, (by decide +kernel), (fun _ => ⟨(gb_w3 84 rfl rfl), (gb_w3 85 rfl rfl), _, _, rfl⟩), (fun h => absurd h (by decide +kernel)), (fun h => absurd h (by decide +kernel))⟩
theorem gb_T18 : gb_Tb 18 := ⟨(gb_w3 82 rfl rfl), (gb_w1 10 rfl rfl), gb_nmX8, gb_de8, (by decide +kernel), (fun _ => ⟨(gb_w3 81 rfl rfl), (gb_w 5 rfl rfl), _, _, rfl⟩), (fun h => absurd h (by decide +kernel)), (fun h => absurd h (by decide +kernel))⟩
theorem gb_T19 : gb_Tb 19 := ⟨(gb_w3 26 rfl rfl), (gb_w1 10 rfl rfl), gb_nmX8, gb_de10, (by decide +kernel), (fun _ => ⟨(gb_w3 25 rfl rfl), (gb_w 4 rfl rfl), _, _, rfl⟩), (fun h => absurd h (by decide +kernel)), (fun h => absurd h (by decide +kernel))⟩
theorem gb_T20 : gb_Tb 20 := ⟨(gb_w3 91 rfl rfl), (gb_w1 10 rfl rfl), gb_nmX8, gb_de11, (by decide +kernel), (fun _ => ⟨(gb_w3 90 rfl rfl), (gb_w 6 rfl rfl), _, _, rfl⟩), (fun h => absurd h (by decide +kernel)), (fun h => absurd h (by decide +kernel))⟩
theorem gb_T21 : gb_Tb 21 := ⟨(gb_w3 95 rfl rfl), (gb_w1 10 rfl rfl), gb_nmX8, gb_de3, (by decide +kernel), (fun _ => ⟨(gb_w3 94 rfl rfl), (gb_w 7 rfl rfl), _, _, rfl⟩), (fun h => absurd h (by decide +kernel)), (fun h => absurd h (by decide +kernel))⟩
theorem gb_T22 : gb_Tb 22 := ⟨(gb_w3 99 rfl rfl), (gb_w1 10 rfl rfl), gb_nmX8, gb_de12, (by decide +kernel), (fun _ => ⟨(gb_w3 98 rfl rfl), (gb_w 8 rfl rfl), _, _, rfl⟩), (fun h => absurd h (by decide +kernel)), (fun h => absurd h (by decide +kernel))⟩
theorem gb_T23 : gb_Tb 23 := ⟨(gb_w3 21 rfl rfl), (gb_w1 10 rfl rfl), gb_nmX8, gb_de12, (by decide +kernel), (fun _ => ⟨(gb_w3 20 rfl rfl), (gb_w 3 rfl rfl), _, _, rfl⟩), (fun h => absurd h (by decide +kernel)), (fun h => absurd h (by decide +kernel))⟩
theorem gb_T24 : gb_Tb 24 := ⟨(gb_w1 156 rfl rfl), (gb_w1 2 rfl rfl), gb_nmX7, gb_de5, (by decide +kernel), (fun _ => ⟨(gb_w1 154 rfl rfl), (gb_w1 155 rfl rfl), _, _, rfl⟩), (fun h => absurd h (by decide +kernel)), (fun h => absurd h (by decide +kernel))⟩
theorem gb_T25 : gb_Tb 25 := ⟨(gb_w3 103 rfl rfl), (gb_w1 10 rfl rfl), gb_nmX8, gb_de12, (by decide +kernel), (fun _ => ⟨(gb_w3 102 rfl rfl), (gb_w 9 rfl rfl), _, _, rfl⟩), (fun h => absurd h (by decide +kernel)), (fun h => absurd h (by decide +kernel))⟩
theorem gb_T26 : gb_Tb 26 := ⟨(gb_w1 164 rfl rfl), (gb_w1 2 rfl rfl), gb_nmX7, gb_de1, (by decide +kernel), (fun _ => ⟨(gb_w1 162 rfl rfl), (gb_w1 163 rfl rfl), _, _, rfl⟩), (fun h => absurd h (by decide +kernel)), (fun h => absurd h (by decide +kernel))⟩
theorem gb_T27 : gb_Tb 27 := ⟨(gb_w2 6 rfl rfl), (gb_w1 1 rfl rfl), gb_nmX11, gb_de11, (by decide +kernel), (fun h => absurd h (by decide +kernel)), (fun _ => (gb_w2 5 rfl rfl)), (fun h => absurd h (by decide +kernel))⟩
theorem gb_T28 : gb_Tb 28 := ⟨(gb_w3 114 rfl rfl), (gb_w1 10 rfl rfl), gb_nmX8, gb_de12, (by decide +kernel), (fun _ => ⟨(gb_w3 113 rfl rfl), (gb_w 11 rfl rfl), _, _, rfl⟩), (fun h => absurd h (by decide +kernel)), (fun h => absurd h (by decide +kernel))⟩
theorem gb_T29 : gb_Tb 29 := ⟨(gb_w3 109 rfl rfl), (gb_w1 10 rfl rfl), gb_nmX8, gb_de12, (by decide +kernel), (fun _ => ⟨(gb_w3 108 rfl rfl), (gb_w 10 rfl rfl), _, _, rfl⟩), (fun h => absurd h (by decide +kernel)), (fun h => absurd h (by decide +kernel))⟩
theorem gb_T30 : gb_Tb 30 := ⟨(gb_w1 168 rfl rfl), (gb_w1 2 rfl rfl), gb_nmX7, gb_de5, (by decide +kernel), (fun _ => ⟨(gb_w1 166 rfl rfl), (gb_w1 167 rfl rfl), _, _, rfl⟩), (fun h => absurd h (by decide +kernel)), (fun h => absurd h (by decide +kernel))⟩
theorem gb_T31 : gb_Tb 31 := ⟨(gb_w3 120 rfl rfl), (gb_w1 10 rfl rfl), gb_nmX8, gb_de12, (by decide +kernel), (fun _ => ⟨(gb_w3 119 rfl rfl), (gb_w 12 rfl rfl), _, _, rfl⟩), (fun h => absurd h (by decide +kernel)), (fun h => absurd h (by decide +kernel))⟩
theorem gb_T32 : gb_Tb 32 := ⟨(gb_w3 126 rfl rfl), (gb_w1 10 rfl rfl), gb_nmX8, gb_de12, (by decide +kernel), (fun _ => ⟨(gb_w3 125 rfl rfl), (gb_w 13 rfl rfl), _, _, rfl⟩), (fun h => absurd h (by decide +kernel)), (fun h => absurd h (by decide +kernel))⟩
theorem gb_T33 : gb_Tb 33 := ⟨(gb_w3 140 rfl rfl), (gb_w1 2 rfl rfl), gb_nmX7, gb_de3, (by decide +kernel), (fun _ => ⟨(gb_w3 138 rfl rfl), (gb_w3 139 rfl rfl), _, _, rfl⟩), (fun h => absurd h (by decide +kernel)), (fun h => absurd h (by decide +kernel))⟩
theorem gb_T34 : gb_Tb 34 := ⟨(gb_w3 148 rfl rfl), (gb_w1 2 rfl rfl), gb_nmX7, gb_de13, (by decide +kernel), (fun _ => ⟨(gb_w3 146 rfl rfl), (gb_w3 147 rfl rfl), _, _, rfl⟩), (fun h => absurd h (by decide +kernel)), (fun h => absurd h (by decide +kernel))⟩
theorem gb_T35 : gb_Tb 35 := ⟨(gb_w3 144 rfl rfl), (gb_w1 10 rfl rfl), gb_nmX8, gb_de13, (by decide +kernel), (fun _ => ⟨(gb_w3 143 rfl rfl), (gb_w 16 rfl rfl), _, _, rfl⟩), (fun h => absurd h (by decide +kernel)), (fun h => absurd h (by decide +kernel))⟩
theorem gb_T36 : gb_Tb 36 := ⟨(gb_w3 157 rfl rfl), (gb_w1 2 rfl rfl), gb_nmX7, gb_de8, (by decide +kernel), (fun _ => ⟨(gb_w3 155 rfl rfl), (gb_w3 156 rfl rfl), _, _, rfl⟩), (fun h => absurd h (by decide +kernel)), (fun h => absurd h (by decide +kernel))⟩
theorem gb_T37 : gb_Tb 37 := ⟨(gb_w3 153 rfl rfl), (gb_w1 2 rfl rfl), gb_nmX7, gb_de11, (by decide +kernel), (fun _ => ⟨(gb_w3 151 rfl rfl), (gb_w3 152 rfl rfl), _, _, rfl⟩), (fun h => absurd h (by decide +kernel)), (fun h => absurd h (by decide +kernel))⟩
theorem gb_T38 : gb_Tb 38 := ⟨(gb_w1 172 rfl rfl), (gb_w1 2 rfl rfl), gb_nmX7, gb_de14, (by decide +kernel), (fun _ => ⟨(gb_w1 170 rfl rfl), (gb_w1 171 rfl rfl), _, _, rfl⟩), (fun h => absurd h (by decide +kernel)), (fun h => absurd h (by decide +kernel))⟩
theorem gb_T39 : gb_Tb 39 := ⟨(gb_w3 136 rfl rfl), (gb_w1 10 rfl rfl), gb_nmX8, gb_de12, (by decide +kernel), (fun _ => ⟨(gb_w3 135 rfl rfl), (gb_w 15 rfl rfl), _, _, rfl⟩), (fun h => absurd h (by decide +kernel)), (fun h => absurd h (by decide +kernel))⟩
theorem gb_T40 : gb_Tb 40 := ⟨(gb_w3 131 rfl rfl), (gb_w1 10 rfl rfl), gb_nmX8, gb_de12, (by decide +kernel), (fun _ => ⟨(gb_w3 130 rfl rfl), (gb_w 14 rfl rfl), _, _, rfl⟩), (fun h => absurd h (by decide +kernel)), (fun h => absurd h (by decide +kernel))⟩
theorem gb_T41 : gb_Tb 41 := ⟨(gb_w2 225 rfl rfl), (gb_w1 10 rfl rfl), gb_nmX8, gb_de12, (by decide +kernel), (fun _ => ⟨(gb_w2 223 rfl rfl), (gb_w2 224 rfl rfl), _, _, rfl⟩), (fun h => absurd h (by decide +kernel)), (fun h => absurd h (by decide +kernel))⟩
theorem gb_T42 : gb_Tb 42 := ⟨(gb_w3 164 rfl rfl), (gb_w1 2 rfl rfl), gb_nmX7, gb_de15, (by decide +kernel), (fun _ => ⟨(gb_w3 162 rfl rfl), (gb_w3 163 rfl rfl), _, _, rfl⟩), (fun h => absurd h (by decide +kernel)), (fun h => absurd h (by decide +kernel))⟩
theorem gb_T43 : gb_Tb 43 := ⟨(gb_w1 239 rfl rfl), (gb_w1 2 rfl rfl), gb_nmX7, gb_de0, (by decide +kernel), (fun _ => ⟨(gb_w1 237 rfl rfl), (gb_w1 238 rfl rfl), _, _, rfl⟩), (fun h => absurd h (by decide +kernel)), (fun h => absurd h (by decide +kernel))⟩
theorem gb_T44 : gb_Tb 44 := ⟨(gb_w2 3 rfl rfl), (gb_w1 4 rfl rfl), gb_nmX3, gb_de11, (by decide +kernel), (fun _ => ⟨(gb_w2 1 rfl rfl), (gb_w2 2 rfl rfl), _, _, rfl⟩), (fun h => absurd h (by decide +kernel)), (fun h => absurd h (by decide +kernel))⟩
theorem gb_T45 : gb_Tb 45 := ⟨(gb_w1 235 rfl rfl), (gb_w1 4 rfl rfl), gb_nmX3, gb_de11, (by decide +kernel), (fun _ => ⟨(gb_w1 233 rfl rfl), (gb_w1 234 rfl rfl), _, _, rfl⟩), (fun h => absurd h (by decide +kernel)), (fun h => absurd h (by decide +kernel))⟩
theorem gb_T46 : gb_Tb 46 := ⟨(gb_w1 227 rfl rfl), (gb_w1 4 rfl rfl), gb_nmX3, gb_de7, (by decide +kernel), (fun _ => ⟨(gb_w1 225 rfl rfl), (gb_w1 226 rfl rfl), _, _, rfl⟩), (fun h => absurd h (by decide +kernel)), (fun h => absurd h (by decide +kernel))⟩
theorem gb_T47 : gb_Tb 47 := ⟨(gb_w1 222 rfl rfl), (gb_w1 4 rfl rfl), gb_nmX3, gb_de7, (by decide +kernel), (fun _ => ⟨(gb_w1 220 rfl rfl), (gb_w1 221 rfl rfl), _, _, rfl⟩), (fun h => absurd h (by decide +kernel)), (fun h => absurd h (by decide +kernel))⟩
theorem gb_T48 : gb_Tb 48 := ⟨(gb_w3 173 rfl rfl), (gb_w1 8 rfl rfl), gb_nmX1, gb_de7, (by decide +kernel), (fun _ => ⟨(gb_w3 171 rfl rfl), (gb_w3 172 rfl rfl), _, _, rfl⟩), (fun h => absurd h (by decide +kernel)), (fun h => absurd h (by decide +kernel))⟩
theorem gb_T49 : gb_Tb 49 := ⟨(gb_w2 221 rfl rfl), (gb_w1 1 rfl rfl), gb_nmX11, gb_de3, (by decide +kernel), (fun _ => ⟨(gb_w2 219 rfl rfl), (gb_w2 220 rfl rfl), _, _, rfl⟩), (fun h => absurd h (by decide +kernel)), (fun h => absurd h (by decide +kernel))⟩
theorem gb_T402 : gb_Tb 402 := ⟨(gb_w3 182 rfl rfl), (gb_w1 1 rfl rfl), gb_nmX11, gb_de5, (by decide +kernel), (fun _ => ⟨(gb_w3 181 rfl rfl), (gb_w 17 rfl rfl), _, _, rfl⟩), (fun h => absurd h (by decide +kernel)), (fun h => absurd h (by decide +kernel))⟩
theorem gb_T50 : gb_Tb 50 := ⟨(gb_w4 19 rfl rfl), (gb_w1 2 rfl rfl), gb_nmX7, gb_de8, (by decide +kernel), (fun _ => ⟨(gb_w4 17 rfl rfl), (gb_w4 18 rfl rfl), _, _, rfl⟩), (fun h => absurd h (by decide +kernel)), (fun h => absurd h (by decide +kernel))⟩
theorem gb_T403 : gb_Tb 403 := ⟨(gb_w4 15 rfl rfl), (gb_w1 1 rfl rfl), gb_nmX11, gb_de5, (by decide +kernel), (fun _ => ⟨(gb_w4 14 rfl rfl), (gb_w 19 rfl rfl), _, _, rfl⟩), (fun h => absurd h (by decide +kernel)), (fun h => absurd h (by decide +kernel))⟩
theorem gb_T51 : gb_Tb 51 := ⟨(gb_w4 28 rfl rfl), (gb_w1 8 rfl rfl), gb_nmX1, gb_de0, (by decide +kernel), (fun _ => ⟨(gb_w4 27 rfl rfl), (gb_w 20 rfl rfl), _, _, rfl⟩), (fun h => absurd h (by decide +kernel)), (fun h => absurd h (by decide +kernel))⟩
theorem gb_T52 : gb_Tb 52 := ⟨(gb_w4 24 rfl rfl), (gb_w1 8 rfl rfl), gb_nmX1, gb_de7, (by decide +kernel), (fun _ => ⟨(gb_w4 22 rfl rfl), (gb_w4 23 rfl rfl), _, _, rfl⟩), (fun h => absurd h (by decide +kernel)), (fun h => absurd h (by decide +kernel))⟩
theorem gb_T53 : gb_Tb 53 := ⟨(gb_w4 41 rfl rfl), (gb_w1 4 rfl rfl), gb_nmX3, gb_de5, (by decide +kernel), (fun _ => ⟨(gb_w4 39 rfl rfl), (gb_w4 40 rfl rfl), _, _, rfl⟩), (fun h => absurd h (by decide +kernel)), (fun h => absurd h (by decide +kernel))⟩
theorem gb_T54 : gb_Tb 54 := ⟨(gb_w4 34 rfl rfl), (gb_w1 7 rfl rfl), gb_nmX2, gb_de16, (by decide +kernel), (fun _ => ⟨(gb_w4 32 rfl rfl), (gb_w4 33 rfl rfl), _, _, rfl⟩), (fun h => absurd h (by decide +kernel)), (fun h => absurd h (by decide +kernel))⟩
theorem gb_T55 : gb_Tb 55 := ⟨(gb_w4 45 rfl rfl), (gb_w1 8 rfl rfl), gb_nmX1, gb_de7, (by decide +kernel), (fun _ => ⟨(gb_w4 43 rfl rfl), (gb_w4 44 rfl rfl), _, _, rfl⟩), (fun h => absurd h (by decide +kernel)), (fun h => absurd h (by decide +kernel))⟩
theorem gb_T404 : gb_Tb 404 := ⟨(gb_w3 178 rfl rfl), (gb_w1 1 rfl rfl), gb_nmX11, gb_de16, (by decide +kernel), (fun _ => ⟨(gb_w3 176 rfl rfl), (gb_w3 177 rfl rfl), _, _, rfl⟩), (fun h => absurd h (by decide +kernel)), (fun h => absurd h (by decide +kernel))⟩
theorem gb_T56 : gb_Tb 56 := ⟨(gb_w4 147 rfl rfl), (gb_w1 2 rfl rfl), gb_nmX7, gb_de8, (by decide +kernel), (fun _ => ⟨(gb_w4 145 rfl rfl), (gb_w4 146 rfl rfl), _, _, rfl⟩), (fun h => absurd h (by decide +kernel)), (fun h => absurd h (by decide +kernel))⟩
theorem gb_T405 : gb_Tb 405 := ⟨(gb_w4 143 rfl rfl), (gb_w1 1 rfl rfl), gb_nmX11, gb_de5, (by decide +kernel), (fun _ => ⟨(gb_w4 142 rfl rfl), (gb_w 28 rfl rfl), _, _, rfl⟩), (fun h => absurd h (by decide +kernel)), (fun h => absurd h (by decide +kernel))⟩
theorem gb_T57 : gb_Tb 57 := ⟨(gb_w4 81 rfl rfl), (gb_w1 4 rfl rfl), gb_nmX3, gb_de8, (by decide +kernel), (fun _ => ⟨(gb_w4 79 rfl rfl), (gb_w4 80 rfl rfl), _, _, rfl⟩), (fun h => absurd h (by decide +kernel)), (fun h => absurd h (by decide +kernel))⟩
theorem gb_T58 : gb_Tb 58 := ⟨(gb_w4 114 rfl rfl), (gb_w1 4 rfl rfl), gb_nmX3, gb_de17, (by decide +kernel), (fun _ => ⟨(gb_w4 112 rfl rfl), (gb_w4 113 rfl rfl), _, _, rfl⟩), (fun h => absurd h (by decide +kernel)), (fun h => absurd h (by decide +kernel))⟩
theorem gb_T59 : gb_Tb 59 := ⟨(gb_w4 160 rfl rfl), (gb_w1 5 rfl rfl), gb_nmX4, gb_de11, (by decide +kernel), (fun _ => ⟨(gb_w4 159 rfl rfl), (gb_w 29 rfl rfl), _, _, rfl⟩), (fun h => absurd h (by decide +kernel)), (fun h => absurd h (by decide +kernel))⟩
theorem gb_T60 : gb_Tb 60 := ⟨(gb_w4 94 rfl rfl), (gb_w1 4 rfl rfl), gb_nmX3, gb_de0, (by decide +kernel), (fun _ => ⟨(gb_w4 92 rfl rfl), (gb_w4 93 rfl rfl), _, _, rfl⟩), (fun h => absurd h (by decide +kernel)), (fun h => absurd h (by decide +kernel))⟩
theorem gb_T61 : gb_Tb 61 := ⟨(gb_w4 152 rfl rfl), (gb_w1 5 rfl rfl), gb_nmX4, gb_de9, (by decide +kernel), (fun _ => ⟨(gb_w4 150 rfl rfl), (gb_w4 151 rfl rfl), _, _, rfl⟩), (fun h => absurd h (by decide +kernel)), (fun h => absurd h (by decide +kernel))⟩
theorem gb_T62 : gb_Tb 62 := ⟨(gb_w4 118 rfl rfl), (gb_w1 4 rfl rfl), gb_nmX3, gb_de1, (by decide +kernel), (fun _ => ⟨(gb_w4 116 rfl rfl), (gb_w4 117 rfl rfl), _, _, rfl⟩), (fun h => absurd h (by decide +kernel)), (fun h => absurd h (by decide +kernel))⟩
theorem gb_T63 : gb_Tb 63 := ⟨(gb_w5 188 rfl rfl), (gb_w1 7 rfl rfl), gb_nmX2, gb_de11, (by decide +kernel), (fun _ => ⟨(gb_w5 186 rfl rfl), (gb_w5 187 rfl rfl), _, _, rfl⟩), (fun h => absurd h (by decide +kernel)), (fun h => absurd h (by decide +kernel))⟩
theorem gb_T406 : gb_Tb 406 := ⟨(gb_w5 193 rfl rfl), (gb_w1 1 rfl rfl), gb_nmX11, gb_de18, (by decide +kernel), (fun _ => ⟨(gb_w5 192 rfl rfl), (gb_w 37 rfl rfl), _, _, rfl⟩), (fun h => absurd h (by decide +kernel)), (fun h => absurd h (by decide +kernel))⟩
theorem gb_T407 : gb_Tb 407 := ⟨(gb_w5 184 rfl rfl), (gb_w1 1 rfl rfl), gb_nmX11, gb_de9, (by decide +kernel), (fun _ => ⟨(gb_w5 182 rfl rfl), (gb_w5 183 rfl rfl), _, _, rfl⟩), (fun h => absurd h (by decide +kernel)), (fun h => absurd h (by decide +kernel))⟩
theorem gb_T64 : gb_Tb 64 := ⟨(gb_w4 65 rfl rfl), (gb_w1 4 rfl rfl), gb_nmX3, gb_de8, (by decide +kernel), (fun _ => ⟨(gb_w4 63 rfl rfl), (gb_w4 64 rfl rfl), _, _, rfl⟩), (fun h => absurd h (by decide +kernel)), (fun h => absurd h (by decide +kernel))⟩
theorem gb_T65 : gb_Tb 65 := ⟨(gb_w4 134 rfl rfl), (gb_w1 4 rfl rfl), gb_nmX3, gb_de8, (by decide +kernel), (fun _ => ⟨(gb_w4 132 rfl rfl), (gb_w4 133 rfl rfl), _, _, rfl⟩), (fun h => absurd h (by decide +kernel)), (fun h => absurd h (by decide +kernel))⟩
theorem gb_T66 : gb_Tb 66 := ⟨(gb_w4 176 rfl rfl), (gb_w1 4 rfl rfl), gb_nmX3, gb_de9, (by decide +kernel), (fun _ => ⟨(gb_w4 174 rfl rfl), (gb_w4 175 rfl rfl), _, _, rfl⟩), (fun h => absurd h (by decide +kernel)), (fun h => absurd h (by decide +kernel))⟩
theorem gb_T67 : gb_Tb 67 := ⟨(gb_w4 170 rfl rfl), (gb_w1 5 rfl rfl), gb_nmX4, gb_de9, (by decide +kernel), (fun _ => ⟨(gb_w4 168 rfl rfl), (gb_w4 169 rfl rfl), _, _, rfl⟩), (fun h => absurd h (by decide +kernel)), (fun h => absurd h (by decide +kernel))⟩
theorem gb_T68 : gb_Tb 68 := ⟨(gb_w5 210 rfl rfl), (gb_w1 4 rfl rfl), gb_nmX3, gb_de1, (by decide +kernel), (fun _ => ⟨(gb_w5 208 rfl rfl), (gb_w5 209 rfl rfl), _, _, rfl⟩), (fun h => absurd h (by decide +kernel)), (fun h => absurd h (by decide +kernel))⟩
theorem gb_T69 : gb_Tb 69 := ⟨(gb_w5 205 rfl rfl), (gb_w1 7 rfl rfl), gb_nmX2, gb_de11, (by decide +kernel), (fun _ => ⟨(gb_w5 203 rfl rfl), (gb_w5 204 rfl rfl), _, _, rfl⟩), (fun h => absurd h (by decide +kernel)), (fun h => absurd h (by decide +kernel))⟩
theorem gb_T70 : gb_Tb 70 := ⟨(gb_w5 56 rfl rfl), (gb_w1 4 rfl rfl), gb_nmX3, gb_de0, (by decide +kernel), (fun _ => ⟨(gb_w5 54 rfl rfl), (gb_w5 55 rfl rfl), _, _, rfl⟩), (fun h => absurd h (by decide +kernel)), (fun h => absurd h (by decide +kernel))⟩
theorem gb_T408 : gb_Tb 408 := ⟨(gb_w5 201 rfl rfl), (gb_w1 1 rfl rfl), gb_nmX11, gb_de9, (by decide +kernel), (fun _ => ⟨(gb_w5 199 rfl rfl), (gb_w5 200 rfl rfl), _, _, rfl⟩), (fun h => absurd h (by decide +kernel)), (fun h => absurd h (by decide +kernel))⟩
theorem gb_T71 : gb_Tb 71 := ⟨(gb_w4 70 rfl rfl), (gb_w1 6 rfl rfl), gb_nmX0, gb_de0, (by decide +kernel), (fun _ => ⟨(gb_w4 69 rfl rfl), (gb_w 21 rfl rfl), _, _, rfl⟩), (fun h => absurd h (by decide +kernel)), (fun h => absurd h (by decide +kernel))⟩
theorem gb_T72 : gb_Tb 72 := ⟨(gb_w4 85 rfl rfl), (gb_w1 2 rfl rfl), gb_nmX7, gb_de0, (by decide +kernel), (fun _ => ⟨(gb_w4 83 rfl rfl), (gb_w4 84 rfl rfl), _, _, rfl⟩), (fun h => absurd h (by decide +kernel)), (fun h => absurd h (by decide +kernel))⟩
theorem gb_T73 : gb_Tb 73 := ⟨(gb_w4 76 rfl rfl), (gb_w1 6 rfl rfl), gb_nmX0, gb_de9, (by decide +kernel), (fun _ => ⟨(gb_w4 75 rfl rfl), (gb_w 22 rfl rfl), _, _, rfl⟩), (fun h => absurd h (by decide +kernel)), (fun h => absurd h (by decide +kernel))⟩
theorem gb_T74 : gb_Tb 74 := ⟨(gb_w4 89 rfl rfl), (gb_w1 6 rfl rfl), gb_nmX0, gb_de0, (by decide +kernel), (fun _ => ⟨(gb_w4 88 rfl rfl), (gb_w 23 rfl rfl), _, _, rfl⟩), (fun h => absurd h (by decide +kernel)), (fun h => absurd h (by decide +kernel))⟩
theorem gb_T75 : gb_Tb 75 := ⟨(gb_w4 110 rfl rfl), (gb_w1 6 rfl rfl), gb_nmX0, gb_de0, (by decide +kernel), (fun _ => ⟨(gb_w4 109 rfl rfl), (gb_w 27 rfl rfl), _, _, rfl⟩), (fun h => absurd h (by decide +kernel)), (fun h => absurd h (by decide +kernel))⟩
theorem gb_T76 : gb_Tb 76 := ⟨(gb_w4 102 rfl rfl), (gb_w1 6 rfl rfl), gb_nmX0, gb_de9, (by decide +kernel), (fun _ => ⟨(gb_w4 101 rfl rfl), (gb_w 25 rfl rfl), _, _, rfl⟩), (fun h => absurd h (by decide +kernel)), (fun h => absurd h (by decide +kernel))⟩
theorem gb_T77 : gb_Tb 77 := ⟨(gb_w4 106 rfl rfl), (gb_w1 6 rfl rfl), gb_nmX0, gb_de0, (by decide +kernel), (fun _ => ⟨(gb_w4 105 rfl rfl), (gb_w 26 rfl rfl), _, _, rfl⟩), (fun h => absurd h (by decide +kernel)), (fun h => absurd h (by decide +kernel))⟩
theorem gb_T78 : gb_Tb 78 := ⟨(gb_w4 98 rfl rfl), (gb_w1 6 rfl rfl), gb_nmX0, gb_de5, (by decide +kernel), (fun _ => ⟨(gb_w4 97 rfl rfl), (gb_w 24 rfl rfl), _, _, rfl⟩), (fun h => absurd h (by decide +kernel)), (fun h => absurd h (by decide +kernel))⟩
theorem gb_T79 : gb_Tb 79 := ⟨(gb_w4 61 rfl rfl), (gb_w1 6 rfl rfl), gb_nmX0, gb_de0, (by decide +kernel), (fun _ => ⟨(gb_w4 59 rfl rfl), (gb_w4 60 rfl rfl), _, _, rfl⟩), (fun h => absurd h (by decide +kernel)), (fun h => absurd h (by decide +kernel))⟩
theorem gb_T80 : gb_Tb 80 := ⟨(gb_w4 57 rfl rfl), (gb_w1 7 rfl rfl), gb_nmX2, gb_de8, (by decide +kernel), (fun _ => ⟨(gb_w4 55 rfl rfl), (gb_w4 56 rfl rfl), _, _, rfl⟩), (fun h => absurd h (by decide +kernel)), (fun h => absurd h (by decide +kernel))⟩
theorem gb_T409 : gb_Tb 409 := ⟨(gb_w5 217 rfl rfl), (gb_w1 1 rfl rfl), gb_nmX11, gb_de0, (by decide +kernel), (fun _ => ⟨(gb_w5 215 rfl rfl), (gb_w5 216 rfl rfl), _, _, rfl⟩), (fun h => absurd h (by decide +kernel)), (fun h => absurd h (by decide +kernel))⟩
theorem gb_T81 : gb_Tb 81 := ⟨(gb_w4 53 rfl rfl), (gb_w1 7 rfl rfl), gb_nmX2, gb_de3, (by decide +kernel), (fun _ => ⟨(gb_w4 51 rfl rfl), (gb_w4 52 rfl rfl), _, _, rfl⟩), (fun h => absurd h (by decide +kernel)), (fun h => absurd h (by decide +kernel))⟩
theorem gb_T82 : gb_Tb 82 := ⟨(gb_w4 49 rfl rfl), (gb_w1 1 rfl rfl), gb_nmX11, gb_de3, (by decide +kernel), (fun _ => ⟨(gb_w4 47 rfl rfl), (gb_w4 48 rfl rfl), _, _, rfl⟩), (fun h => absurd h (by decide +kernel)), (fun h => absurd h (by decide +kernel))⟩
theorem gb_T83 : gb_Tb 83 := ⟨(gb_w4 188 rfl rfl), (gb_w1 5 rfl rfl), gb_nmX4, gb_de11, (by decide +kernel), (fun _ => ⟨(gb_w4 187 rfl rfl), (gb_w 30 rfl rfl), _, _, rfl⟩), (fun h => absurd h (by decide +kernel)), (fun h => absurd h (by decide +kernel))⟩
theorem gb_T84 : gb_Tb 84 := ⟨(gb_w4 192 rfl rfl), (gb_w1 5 rfl rfl), gb_nmX4, gb_de19, (by decide +kernel), (fun _ => ⟨(gb_w4 191 rfl rfl), (gb_w 31 rfl rfl), _, _, rfl⟩), (fun h => absurd h (by decide +kernel)), (fun h => absurd h (by decide +kernel))⟩
theorem gb_T85 : gb_Tb 85 := ⟨(gb_w4 184 rfl rfl), (gb_w1 5 rfl rfl), gb_nmX4, gb_de9, (by decide +kernel), (fun _ => ⟨(gb_w4 182 rfl rfl), (gb_w4 183 rfl rfl), _, _, rfl⟩), (fun h => absurd h (by decide +kernel)), (fun h => absurd h (by decide +kernel))⟩
theorem gb_T86 : gb_Tb 86 := ⟨(gb_w5 229 rfl rfl), (gb_w1 7 rfl rfl), gb_nmX2, gb_de11, (by decide +kernel), (fun _ => ⟨(gb_w5 227 rfl rfl), (gb_w5 228 rfl rfl), _, _, rfl⟩), (fun h => absurd h (by decide +kernel)), (fun h => absurd h (by decide +kernel))⟩
theorem gb_T410 : gb_Tb 410 := ⟨(gb_w5 225 rfl rfl), (gb_w1 1 rfl rfl), gb_nmX11, gb_de9, (by decide +kernel), (fun _ => ⟨(gb_w5 223 rfl rfl), (gb_w5 224 rfl rfl), _, _, rfl⟩), (fun h => absurd h (by decide +kernel)), (fun h => absurd h (by decide +kernel))⟩
theorem gb_T87 : gb_Tb 87 := ⟨(gb_w5 77 rfl rfl), (gb_w1 2 rfl rfl), gb_nmX7, gb_de8, (by decide +kernel), (fun _ => ⟨(gb_w5 75 rfl rfl), (gb_w5 76 rfl rfl), _, _, rfl⟩), (fun h => absurd h (by decide +kernel)), (fun h => absurd h (by decide +kernel))⟩
theorem gb_T411 : gb_Tb 411 := ⟨(gb_w5 73 rfl rfl), (gb_w1 1 rfl rfl), gb_nmX11, gb_de5, (by decide +kernel), (fun _ => ⟨(gb_w5 72 rfl rfl), (gb_w 33 rfl rfl), _, _, rfl⟩), (fun h => absurd h (by decide +kernel)), (fun h => absurd h (by decide +kernel))⟩
theorem gb_T88 : gb_Tb 88 := ⟨(gb_w5 4 rfl rfl), (gb_w1 5 rfl rfl), gb_nmX4, gb_de9, (by decide +kernel), (fun _ => ⟨(gb_w5 2 rfl rfl), (gb_w5 3 rfl rfl), _, _, rfl⟩), (fun h => absurd h (by decide +kernel)), (fun h => absurd h (by decide +kernel))⟩
theorem gb_T89 : gb_Tb 89 := ⟨(gb_w6 1 rfl rfl), (gb_w1 7 rfl rfl), gb_nmX2, gb_de11, (by decide +kernel), (fun _ => ⟨(gb_w5 239 rfl rfl), (gb_w6 0 rfl rfl), _, _, rfl⟩), (fun h => absurd h (by decide +kernel)), (fun h => absurd h (by decide +kernel))⟩
theorem gb_T412 : gb_Tb 412 := ⟨(gb_w5 237 rfl rfl), (gb_w1 1 rfl rfl), gb_nmX11, gb_de9, (by decide +kernel), (fun _ => ⟨(gb_w5 235 rfl rfl), (gb_w5 236 rfl rfl), _, _, rfl⟩), (fun h => absurd h (by decide +kernel)), (fun h => absurd h (by decide +kernel))⟩
theorem gb_T90 : gb_Tb 90 := ⟨(gb_w4 204 rfl rfl), (gb_w1 2 rfl rfl), gb_nmX7, gb_de8, (by decide +kernel), (fun _ => ⟨(gb_w4 202 rfl rfl), (gb_w4 203 rfl rfl), _, _, rfl⟩), (fun h => absurd h (by decide +kernel)), (fun h => absurd h (by decide +kernel))⟩
theorem gb_T413 : gb_Tb 413 := ⟨(gb_w4 200 rfl rfl), (gb_w1 1 rfl rfl), gb_nmX11, gb_de5, (by decide +kernel), (fun _ => ⟨(gb_w4 199 rfl rfl), (gb_w 32 rfl rfl), _, _, rfl⟩), (fun h => absurd h (by decide +kernel)), (fun h => absurd h (by decide +kernel))⟩
theorem gb_T91 : gb_Tb 91 := ⟨(gb_w4 209 rfl rfl), (gb_w1 5 rfl rfl), gb_nmX4, gb_de9, (by decide +kernel), (fun _ => ⟨(gb_w4 207 rfl rfl), (gb_w4 208 rfl rfl), _, _, rfl⟩), (fun h => absurd h (by decide +kernel)), (fun h => absurd h (by decide +kernel))⟩
theorem gb_T92 : gb_Tb 92 := ⟨(gb_w6 13 rfl rfl), (gb_w1 7 rfl rfl), gb_nmX2, gb_de11, (by decide +kernel), (fun _ => ⟨(gb_w6 11 rfl rfl), (gb_w6 12 rfl rfl), _, _, rfl⟩), (fun h => absurd h (by decide +kernel)), (fun h => absurd h (by decide +kernel))⟩
theorem gb_T414 : gb_Tb 414 := ⟨(gb_w6 9 rfl rfl), (gb_w1 1 rfl rfl), gb_nmX11, gb_de9, (by decide +kernel), (fun _ => ⟨(gb_w6 7 rfl rfl), (gb_w6 8 rfl rfl), _, _, rfl⟩), (fun h => absurd h (by decide +kernel)), (fun h => absurd h (by decide +kernel))⟩
theorem gb_T93 : gb_Tb 93 := ⟨(gb_w6 25 rfl rfl), (gb_w1 7 rfl rfl), gb_nmX2, gb_de8, (by decide +kernel), (fun _ => ⟨(gb_w6 23 rfl rfl), (gb_w6 24 rfl rfl), _, _, rfl⟩), (fun h => absurd h (by decide +kernel)), (fun h => absurd h (by decide +kernel))⟩
theorem gb_T415 : gb_Tb 415 := ⟨(gb_w6 21 rfl rfl), (gb_w1 1 rfl rfl), gb_nmX11, gb_de0, (by decide +kernel), (fun _ => ⟨(gb_w6 19 rfl rfl), (gb_w6 20 rfl rfl), _, _, rfl⟩), (fun h => absurd h (by decide +kernel)), (fun h => absurd h (by decide +kernel))⟩
theorem gb_T94 : gb_Tb 94 := ⟨(gb_w4 130 rfl rfl), (gb_w1 4 rfl rfl), gb_nmX3, gb_de8, (by decide +kernel), (fun _ => ⟨(gb_w4 128 rfl rfl), (gb_w4 129 rfl rfl), _, _, rfl⟩), (fun h => absurd h (by decide +kernel)), (fun h => absurd h (by decide +kernel))⟩
theorem gb_T95 : gb_Tb 95 := ⟨(gb_w4 126 rfl rfl), (gb_w1 4 rfl rfl), gb_nmX3, gb_de3, (by decide +kernel), (fun _ => ⟨(gb_w4 124 rfl rfl), (gb_w4 125 rfl rfl), _, _, rfl⟩), (fun h => absurd h (by decide +kernel)), (fun h => absurd h (by decide +kernel))⟩
theorem gb_T96 : gb_Tb 96 := ⟨(gb_w4 122 rfl rfl), (gb_w1 1 rfl rfl), gb_nmX11, gb_de3, (by decide +kernel), (fun _ => ⟨(gb_w4 120 rfl rfl), (gb_w4 121 rfl rfl), _, _, rfl⟩), (fun h => absurd h (by decide +kernel)), (fun h => absurd h (by decide +kernel))⟩
theorem gb_T416 : gb_Tb 416 := ⟨(gb_w4 139 rfl rfl), (gb_w1 1 rfl rfl), gb_nmX11, gb_de9, (by decide +kernel), (fun _ => ⟨(gb_w4 137 rfl rfl), (gb_w4 138 rfl rfl), _, _, rfl⟩), (fun h => absurd h (by decide +kernel)), (fun h => absurd h (by decide +kernel))⟩
theorem gb_T417 : gb_Tb 417 := ⟨(gb_w4 166 rfl rfl), (gb_w1 1 rfl rfl), gb_nmX11, gb_de9, (by decide +kernel), (fun _ => ⟨(gb_w4 164 rfl rfl), (gb_w4 165 rfl rfl), _, _, rfl⟩), (fun h => absurd h (by decide +kernel)), (fun h => absurd h (by decide +kernel))⟩
theorem gb_T418 : gb_Tb 418 := ⟨(gb_w4 180 rfl rfl), (gb_w1 1 rfl rfl), gb_nmX11, gb_de9, (by decide +kernel), (fun _ => ⟨(gb_w4 178 rfl rfl), (gb_w4 179 rfl rfl), _, _, rfl⟩), (fun h => absurd h (by decide +kernel)), (fun h => absurd h (by decide +kernel))⟩
theorem gb_T419 : gb_Tb 419 := ⟨(gb_w4 196 rfl rfl), (gb_w1 1 rfl rfl), gb_nmX11, gb_de9, (by decide +kernel), (fun _ => ⟨(gb_w4 194 rfl rfl), (gb_w4 195 rfl rfl), _, _, rfl⟩), (fun h => absurd h (by decide +kernel)), (fun h => absurd h (by decide +kernel))⟩
theorem gb_T420 : gb_Tb 420 := ⟨(gb_w6 50 rfl rfl), (gb_w1 1 rfl rfl), gb_nmX11, gb_de0, (by decide +kernel), (fun _ => ⟨(gb_w6 48 rfl rfl), (gb_w6 49 rfl rfl), _, _, rfl⟩), (fun h => absurd h (by decide +kernel)), (fun h => absurd h (by decide +kernel))⟩
theorem gb_T421 : gb_Tb 421 := ⟨(gb_w4 213 rfl rfl), (gb_w1 1 rfl rfl), gb_nmX11, gb_de0, (by decide +kernel), (fun _ => ⟨(gb_w4 211 rfl rfl), (gb_w4 212 rfl rfl), _, _, rfl⟩), (fun h => absurd h (by decide +kernel)), (fun h => absurd h (by decide +kernel))⟩
theorem gb_T422 : gb_Tb 422 := ⟨(gb_w4 218 rfl rfl), (gb_w1 1 rfl rfl), gb_nmX11, gb_de9, (by decide +kernel), (fun _ => ⟨(gb_w4 216 rfl rfl), (gb_w4 217 rfl rfl), _, _, rfl⟩), (fun h => absurd h (by decide +kernel)), (fun h => absurd h (by decide +kernel))⟩
theorem gb_T423 : gb_Tb 423 := ⟨(gb_w4 239 rfl rfl), (gb_w1 1 rfl rfl), gb_nmX11, gb_de0, (by decide +kernel), (fun _ => ⟨(gb_w4 237 rfl rfl), (gb_w4 238 rfl rfl), _, _, rfl⟩), (fun h => absurd h (by decide +kernel)), (fun h => absurd h (by decide +kernel))⟩
theorem gb_T97 : gb_Tb 97 := ⟨(gb_w5 16 rfl rfl), (gb_w1 2 rfl rfl), gb_nmX7, gb_de20, (by decide +kernel), (fun _ => ⟨(gb_w5 14 rfl rfl), (gb_w5 15 rfl rfl), _, _, rfl⟩), (fun h => absurd h (by decide +kernel)), (fun h => absurd h (by decide +kernel))⟩
theorem gb_T98 : gb_Tb 98 := ⟨(gb_w5 20 rfl rfl), (gb_w1 4 rfl rfl), gb_nmX3, gb_de3, (by decide +kernel), (fun _ => ⟨(gb_w5 18 rfl rfl), (gb_w5 19 rfl rfl), _, _, rfl⟩), (fun h => absurd h (by decide +kernel)), (fun h => absurd h (by decide +kernel))⟩
theorem gb_T99 : gb_Tb 99 := ⟨(gb_w5 12 rfl rfl), (gb_w1 4 rfl rfl), gb_nmX3, gb_de3, (by decide +kernel), (fun _ => ⟨(gb_w5 10 rfl rfl), (gb_w5 11 rfl rfl), _, _, rfl⟩), (fun h => absurd h (by decide +kernel)), (fun h => absurd h (by decide +kernel))⟩
theorem gb_T424 : gb_Tb 424 := ⟨(gb_w5 8 rfl rfl), (gb_w1 1 rfl rfl), gb_nmX11, gb_de0, (by decide +kernel), (fun _ => ⟨(gb_w5 6 rfl rfl), (gb_w5 7 rfl rfl), _, _, rfl⟩), (fun h => absurd h (by decide +kernel)), (fun h => absurd h (by decide +kernel))⟩
theorem gb_T425 : gb_Tb 425 := ⟨(gb_w5 40 rfl rfl), (gb_w1 1 rfl rfl), gb_nmX11, gb_de9, (by decide +kernel), (fun _ => ⟨(gb_w5 38 rfl rfl), (gb_w5 39 rfl rfl), _, _, rfl⟩), (fun h => absurd h (by decide +kernel)), (fun h => absurd h (by decide +kernel))⟩
theorem gb_T100 : gb_Tb 100 := ⟨(gb_w5 51 rfl rfl), (gb_w1 4 rfl rfl), gb_nmX3, gb_de0, (by decide +kernel), (fun _ => ⟨(gb_w5 49 rfl rfl), (gb_w5 50 rfl rfl), _, _, rfl⟩), (fun h => absurd h (by decide +kernel)), (fun h => absurd h (by decide +kernel))⟩
theorem gb_T426 : gb_Tb 426 := ⟨(gb_w5 47 rfl rfl), (gb_w1 1 rfl rfl), gb_nmX11, gb_de9, (by decide +kernel), (fun _ => ⟨(gb_w5 45 rfl rfl), (gb_w5 46 rfl rfl), _, _, rfl⟩), (fun h => absurd h (by decide +kernel)), (fun h => absurd h (by decide +kernel))⟩
theorem gb_T427 : gb_Tb 427 := ⟨(gb_w6 45 rfl rfl), (gb_w1 1 rfl rfl), gb_nmX11, gb_de9, (by decide +kernel), (fun _ => ⟨(gb_w6 43 rfl rfl), (gb_w6 44 rfl rfl), _, _, rfl⟩), (fun h => absurd h (by decide +kernel)), (fun h => absurd h (by decide +kernel))⟩
theorem gb_T428 : gb_Tb 428 := ⟨(gb_w5 62 rfl rfl), (gb_w1 1 rfl rfl), gb_nmX11, gb_de9, (by decide +kernel), (fun _ => ⟨(gb_w5 60 rfl rfl), (gb_w5 61 rfl rfl), _, _, rfl⟩), (fun h => absurd h (by decide +kernel)), (fun h => absurd h (by decide +kernel))⟩
theorem gb_T429 : gb_Tb 429 := ⟨(gb_w5 103 rfl rfl), (gb_w1 1 rfl rfl), gb_nmX11, gb_de5, (by decide +kernel), (fun _ => ⟨(gb_w5 102 rfl rfl), (gb_w 34 rfl rfl), _, _, rfl⟩), (fun h => absurd h (by decide +kernel)), (fun h => absurd h (by decide +kernel))⟩
theorem gb_T430 : gb_Tb 430 := ⟨(gb_w6 33 rfl rfl), (gb_w1 1 rfl rfl), gb_nmX11, gb_de9, (by decide +kernel), (fun _ => ⟨(gb_w6 31 rfl rfl), (gb_w6 32 rfl rfl), _, _, rfl⟩), (fun h => absurd h (by decide +kernel)), (fun h => absurd h (by decide +kernel))⟩
theorem gb_T431 : gb_Tb 431 := ⟨(gb_w6 41 rfl rfl), (gb_w1 1 rfl rfl), gb_nmX11, gb_de9, (by decide +kernel), (fun _ => ⟨(gb_w6 39 rfl rfl), (gb_w6 40 rfl rfl), _, _, rfl⟩), (fun h => absurd h (by decide +kernel)), (fun h => absurd h (by decide +kernel))⟩
theorem gb_T432 : gb_Tb 432 := ⟨(gb_w6 37 rfl rfl), (gb_w1 1 rfl rfl), gb_nmX11, gb_de9, (by decide +kernel), (fun _ => ⟨(gb_w6 35 rfl rfl), (gb_w6 36 rfl rfl), _, _, rfl⟩), (fun h => absurd h (by decide +kernel)), (fun h => absurd h (by decide +kernel))⟩
theorem gb_T433 : gb_Tb 433 := ⟨(gb_w5 69 rfl rfl), (gb_w1 1 rfl rfl), gb_nmX11, gb_de0, (by decide +kernel), (fun _ => ⟨(gb_w5 67 rfl rfl), (gb_w5 68 rfl rfl), _, _, rfl⟩), (fun h => absurd h (by decide +kernel)), (fun h => absurd h (by decide +kernel))⟩
theorem gb_T434 : gb_Tb 434 := ⟨(gb_w5 85 rfl rfl), (gb_w1 1 rfl rfl), gb_nmX11, gb_de9, (by decide +kernel), (fun _ => ⟨(gb_w5 83 rfl rfl), (gb_w5 84 rfl rfl), _, _, rfl⟩), (fun h => absurd h (by decide +kernel)), (fun h => absurd h (by decide +kernel))⟩
theorem gb_T101 : gb_Tb 101 := ⟨(gb_w5 94 rfl rfl), (gb_w1 4 rfl rfl), gb_nmX3, gb_de21, (by decide +kernel), (fun _ => ⟨(gb_w5 92 rfl rfl), (gb_w5 93 rfl rfl), _, _, rfl⟩), (fun h => absurd h (by decide +kernel)), (fun h => absurd h (by decide +kernel))⟩
theorem gb_T435 : gb_Tb 435 := ⟨(gb_w5 90 rfl rfl), (gb_w1 1 rfl rfl), gb_nmX11, gb_de9, (by decide +kernel), (fun _ => ⟨(gb_w5 88 rfl rfl), (gb_w5 89 rfl rfl), _, _, rfl⟩), (fun h => absurd h (by decide +kernel)), (fun h => absurd h (by decide +kernel))⟩
theorem gb_T102 : gb_Tb 102 := ⟨(gb_w6 69 rfl rfl), (gb_w1 22 rfl rfl), gb_nmJ9, gb_de9, (by decide +kernel), (fun h => absurd h (by decide +kernel)), (fun h => absurd h (by decide +kernel)), (fun h => absurd h (by decide +kernel))⟩
theorem gb_T103 : gb_Tb 103 := ⟨(gb_w6 65 rfl rfl), (gb_w1 1 rfl rfl), gb_nmX11, gb_de3, (by decide +kernel), (fun _ => ⟨(gb_w6 63 rfl rfl), (gb_w6 64 rfl rfl), _, _, rfl⟩), (fun h => absurd h (by decide +kernel)), (fun h => absurd h (by decide +kernel))⟩
theorem gb_T104 : gb_Tb 104 := ⟨(gb_w6 58 rfl rfl), (gb_w1 4 rfl rfl), gb_nmX3, gb_de3, (by decide +kernel), (fun _ => ⟨(gb_w6 56 rfl rfl), (gb_w6 57 rfl rfl), _, _, rfl⟩), (fun h => absurd h (by decide +kernel)), (fun h => absurd h (by decide +kernel))⟩
theorem gb_T105 : gb_Tb 105 := ⟨(gb_w6 54 rfl rfl), (gb_w1 1 rfl rfl), gb_nmX11, gb_de22, (by decide +kernel), (fun _ => ⟨(gb_w6 52 rfl rfl), (gb_w6 53 rfl rfl), _, _, rfl⟩), (fun h => absurd h (by decide +kernel)), (fun h => absurd h (by decide +kernel))⟩
theorem gb_T106 : gb_Tb 106 := ⟨(gb_w5 112 rfl rfl), (gb_w1 12 rfl rfl), gb_nmX5, gb_de5, (by decide +kernel), (fun _ => ⟨(gb_w5 111 rfl rfl), (gb_w 35 rfl rfl), _, _, rfl⟩), (fun h => absurd h (by decide +kernel)), (fun h => absurd h (by decide +kernel))⟩
theorem gb_T107 : gb_Tb 107 := ⟨(gb_w5 118 rfl rfl), (gb_w1 12 rfl rfl), gb_nmX5, gb_de5, (by decide +kernel), (fun _ => ⟨(gb_w5 117 rfl rfl), (gb_w 36 rfl rfl), _, _, rfl⟩), (fun h => absurd h (by decide +kernel)), (fun h => absurd h (by decide +kernel))⟩
theorem gb_T108 : gb_Tb 108 := ⟨(gb_w5 108 rfl rfl), (gb_w1 12 rfl rfl), gb_nmX5, gb_de5, (by decide +kernel), (fun _ => ⟨(gb_w5 106 rfl rfl), (gb_w5 107 rfl rfl), _, _, rfl⟩), (fun h => absurd h (by decide +kernel)), (fun h => absurd h (by decide +kernel))⟩
theorem gb_T436 : gb_Tb 436 := ⟨(gb_w5 99 rfl rfl), (gb_w1 1 rfl rfl), gb_nmX11, gb_de0, (by decide +kernel), (fun _ => ⟨(gb_w5 97 rfl rfl), (gb_w5 98 rfl rfl), _, _, rfl⟩), (fun h => absurd h (by decide +kernel)), (fun h => absurd h (by decide +kernel))⟩
theorem gb_T109 : gb_Tb 109 := ⟨(gb_w5 149 rfl rfl), (gb_w1 8 rfl rfl), gb_nmX1, gb_de7, (by decide +kernel), (fun _ => ⟨(gb_w5 147 rfl rfl), (gb_w5 148 rfl rfl), _, _, rfl⟩), (fun h => absurd h (by decide +kernel)), (fun h => absurd h (by decide +kernel))⟩
theorem gb_T110 : gb_Tb 110 := ⟨(gb_w5 145 rfl rfl), (gb_w1 8 rfl rfl), gb_nmX1, gb_de7, (by decide +kernel), (fun _ => ⟨(gb_w5 143 rfl rfl), (gb_w5 144 rfl rfl), _, _, rfl⟩), (fun h => absurd h (by decide +kernel)), (fun h => absurd h (by decide +kernel))⟩
theorem gb_T437 : gb_Tb 437 := ⟨(gb_w5 125 rfl rfl), (gb_w1 1 rfl rfl), gb_nmX11, gb_de3, (by decide +kernel), (fun _ => ⟨(gb_w5 123 rfl rfl), (gb_w5 124 rfl rfl), _, _, rfl⟩), (fun h => absurd h (by decide +kernel)), (fun h => absurd h (by decide +kernel))⟩
theorem gb_T111 : gb_Tb 111 := ⟨(gb_w5 153 rfl rfl), (gb_w1 1 rfl rfl), gb_nmX11, gb_de3, (by decide +kernel), (fun _ => ⟨(gb_w5 151 rfl rfl), (gb_w5 152 rfl rfl), _, _, rfl⟩), (fun h => absurd h (by decide +kernel)), (fun h => absurd h (by decide +kernel))⟩
theorem gb_T112 : gb_Tb 112 := ⟨(gb_w1 148 rfl rfl), (gb_w1 2 rfl rfl), gb_nmX7, gb_de7, (by decide +kernel), (fun _ => ⟨(gb_w1 146 rfl rfl), (gb_w1 147 rfl rfl), _, _, rfl⟩), (fun h => absurd h (by decide +kernel)), (fun h => absurd h (by decide +kernel))⟩
def gb_Kl (C : String) (T : u_T) (N : Nat) : Prop := ∃ ty : Nat → FieldType, (∀ w ∈ u_ws C T N, w ∈ gb_good) ∧ (∀ j, j < N → parseFieldDescriptor (T j).2.2.1 = some (ty j)) ∧ (∀ a, a < N → ∀ b, b < N → a ≠ b → (T a).2.1 ≠ (T b).2.1) ∧ ∀ k, k < N → (T k).2.2.2 = false → ty k = .int
theorem gb_kl0 : gb_Kl RX0 TX0 7 := ⟨tyX0, (List.forall_mem_cons.mpr ⟨(gb_w2 38 rfl rfl), List.forall_mem_cons.mpr ⟨(gb_w2 40 rfl rfl), List.forall_mem_cons.mpr ⟨(gb_w2 42 rfl rfl), List.forall_mem_cons.mpr ⟨(gb_w2 44 rfl rfl), List.forall_mem_cons.mpr ⟨(gb_w2 46 rfl rfl), List.forall_mem_cons.mpr ⟨(gb_w2 48 rfl rfl), List.forall_mem_cons.mpr ⟨(gb_w2 50 rfl rfl), fun _ h => nomatch h⟩⟩⟩⟩⟩⟩⟩), tyX0_ok, nmX0, by decide +kernel⟩
theorem gb_kl1 : gb_Kl RX1 TX1 4 := ⟨tyX1, (List.forall_mem_cons.mpr ⟨(gb_w2 85 rfl rfl), List.forall_mem_cons.mpr ⟨(gb_w2 87 rfl rfl), List.forall_mem_cons.mpr ⟨(gb_w2 89 rfl rfl), List.forall_mem_cons.mpr ⟨(gb_w2 91 rfl rfl), fun _ h => nomatch h⟩⟩⟩⟩), tyX1_ok, nmX1, by decide +kernel⟩
theorem gb_kl2 : gb_Kl RX2 TX2 4 := ⟨tyX2, (List.forall_mem_cons.mpr ⟨(gb_w2 63 rfl rfl), List.forall_mem_cons.mpr ⟨(gb_w2 65 rfl rfl), List.forall_mem_cons.mpr ⟨(gb_w2 67 rfl rfl), List.forall_mem_cons.mpr ⟨(gb_w2 69 rfl rfl), fun _ h => nomatch h⟩⟩⟩⟩), tyX2_ok, nmX2, by decide +kernel⟩
theorem gb_kl3 : gb_Kl RX3 TX3 6 := ⟨tyX3, (List.forall_mem_cons.mpr ⟨(gb_w1 206 rfl rfl), List.forall_mem_cons.mpr ⟨(gb_w1 208 rfl rfl), List.forall_mem_cons.mpr ⟨(gb_w1 210 rfl rfl), List.forall_mem_cons.mpr ⟨(gb_w1 212 rfl rfl), List.forall_mem_cons.mpr ⟨(gb_w1 214 rfl rfl), List.forall_mem_cons.mpr ⟨(gb_w1 216 rfl rfl), fun _ h => nomatch h⟩⟩⟩⟩⟩⟩), tyX3_ok, nmX3, by decide +kernel⟩
theorem gb_kl4 : gb_Kl RX4 TX4 2 := ⟨tyX4, (List.forall_mem_cons.mpr ⟨(gb_w2 15 rfl rfl), List.forall_mem_cons.mpr ⟨(gb_w2 17 rfl rfl), fun _ h => nomatch h⟩⟩), tyX4_ok, nmX4, by decide +kernel⟩
theorem gb_kl5 : gb_Kl RX5 TX5 4 := ⟨tyX5, (List.forall_mem_cons.mpr ⟨(gb_w2 178 rfl rfl), List.forall_mem_cons.mpr ⟨(gb_w2 180 rfl rfl), List.forall_mem_cons.mpr ⟨(gb_w2 182 rfl rfl), List.forall_mem_cons.mpr ⟨(gb_w2 184 rfl rfl), fun _ h => nomatch h⟩⟩⟩⟩), tyX5_ok, nmX5, by decide +kernel⟩
theorem gb_kl6 : gb_Kl RX6 TX6 1 := ⟨tyX6, (List.forall_mem_cons.mpr ⟨(gb_w1 46 rfl rfl), fun _ h => nomatch h⟩), tyX6_ok, nmX6, by decide +kernel⟩
theorem gb_kl7 : gb_Kl RX7 TX7 16 := ⟨tyX7, (List.forall_mem_cons.mpr ⟨(gb_w1 112 rfl rfl), List.forall_mem_cons.mpr ⟨(gb_w1 114 rfl rfl), List.forall_mem_cons.mpr ⟨(gb_w1 116 rfl rfl), List.forall_mem_cons.mpr ⟨(gb_w1 118 rfl rfl), List.forall_mem_cons.mpr ⟨(gb_w1 120 rfl rfl), List.forall_mem_cons.mpr ⟨(gb_w1 122 rfl rfl), List.forall_mem_cons.mpr ⟨(gb_w1 124 rfl rfl), List.forall_mem_cons.mpr ⟨(gb_w1 126 rfl rfl), List.forall_mem_cons.mpr ⟨(gb_w1 128 rfl rfl), List.forall_mem_cons.mpr ⟨(gb_w1 130 rfl rfl), List.forall_mem_cons.mpr ⟨(gb_w1 132 rfl rfl), List.forall_mem_cons.mpr ⟨(gb_w1 134 rfl rfl), List.forall_mem_cons.mpr ⟨(gb_w1 136 rfl rfl), List.forall_mem_cons.mpr ⟨(gb_w1 138 rfl rfl), List.forall_mem_cons.mpr ⟨(gb_w1 140 rfl rfl), List.forall_mem_cons.mpr ⟨(gb_w1 142 rfl rfl), fun _ h => nomatch h⟩⟩⟩⟩⟩⟩⟩⟩⟩⟩⟩⟩⟩⟩⟩⟩), tyX7_ok, nmX7, by decide +kernel⟩
theorem gb_kl8 : gb_Kl RX8 TX8 2 := ⟨tyX8, (List.forall_mem_cons.mpr ⟨(gb_w2 142 rfl rfl), List.forall_mem_cons.mpr ⟨(gb_w2 144 rfl rfl), fun _ h => nomatch h⟩⟩), tyX8_ok, nmX8, by decide +kernel⟩
theorem gb_kl9 : gb_Kl RX9 TX9 5 := ⟨tyX9, (List.forall_mem_cons.mpr ⟨(gb_w2 154 rfl rfl), List.forall_mem_cons.mpr ⟨(gb_w2 156 rfl rfl), List.forall_mem_cons.mpr ⟨(gb_w2 158 rfl rfl), List.forall_mem_cons.mpr ⟨(gb_w2 160 rfl rfl), List.forall_mem_cons.mpr ⟨(gb_w2 162 rfl rfl), fun _ h => nomatch h⟩⟩⟩⟩⟩), tyX9_ok, nmX9, by decide +kernel⟩
theorem gb_kl10 : gb_Kl RX10 TX10 8 := ⟨tyX10, (List.forall_mem_cons.mpr ⟨(gb_w2 114 rfl rfl), List.forall_mem_cons.mpr ⟨(gb_w2 116 rfl rfl), List.forall_mem_cons.mpr ⟨(gb_w2 118 rfl rfl), List.forall_mem_cons.mpr ⟨(gb_w2 120 rfl rfl), List.forall_mem_cons.mpr ⟨(gb_w2 122 rfl rfl), List.forall_mem_cons.mpr ⟨(gb_w2 124 rfl rfl), List.forall_mem_cons.mpr ⟨(gb_w2 126 rfl rfl), List.forall_mem_cons.mpr ⟨(gb_w2 128 rfl rfl), fun _ h => nomatch h⟩⟩⟩⟩⟩⟩⟩⟩), tyX10_ok, nmX10, by decide +kernel⟩
theorem gb_kl11 : gb_Kl RX11 TX11 10 := ⟨tyX11, (List.forall_mem_cons.mpr ⟨(gb_w2 197 rfl rfl), List.forall_mem_cons.mpr ⟨(gb_w2 199 rfl rfl), List.forall_mem_cons.mpr ⟨(gb_w2 201 rfl rfl), List.forall_mem_cons.mpr ⟨(gb_w2 203 rfl rfl), List.forall_mem_cons.mpr ⟨(gb_w2 205 rfl rfl), List.forall_mem_cons.mpr ⟨(gb_w2 207 rfl rfl), List.forall_mem_cons.mpr ⟨(gb_w2 209 rfl rfl), List.forall_mem_cons.mpr ⟨(gb_w2 211 rfl rfl), List.forall_mem_cons.mpr ⟨(gb_w2 213 rfl rfl), List.forall_mem_cons.mpr ⟨(gb_w2 215 rfl rfl), fun _ h => nomatch h⟩⟩⟩⟩⟩⟩⟩⟩⟩⟩), tyX11_ok, nmX11, by decide +kernel⟩
theorem gb_fo_of {own C : String} {T : u_T} {N ci idx k : Nat} (hk : gb_Kl C T N) (h1 : vwCl[ci]? = some (C, T, N)) (h2 : k < N) (h3 : Cond.fieldLink own idx (T k).1 (T k).2.1 (T k).2.2.1 ∈ gb_good) : gb_Fo own (idx, ci, k) := by
  obtain ⟨ty, k1, k2, k3, k4⟩ := hk
  exact ⟨C, T, N, ty, h1, h2, h3, k1, k2, k3, k4 _ h2⟩
def gb_Ln (own : String) (lk lkn : List (Nat × Nat)) : Prop := (∀ q ∈ lk, Cond.methodLink own q.1 (gb_y q.2) ∈ gb_good) ∧ ∀ q ∈ lkn, gb_ki q.2 = 1 ∧ ∃ host, (own, q.1, gb_y q.2, host) ∈ gb_nest
def gb_flL : List (Nat × Nat × Nat) := []
def gb_slL : List (Nat × Nat) := [(94, 24)]
def gb_nlL : List (Nat × Int32) := []
def gb_llL : List (Nat × Int32) := [(88, 7)]
def gb_tlL : List (Nat × Nat × Nat) := []
theorem gb_oL : gb_Own RL gb_flL gb_slL gb_nlL gb_llL gb_tlL := ⟨(fun _ h => nomatch h), (List.forall_mem_cons.mpr ⟨⟨_, List.mem_of_getElem? (i := 24) rfl⟩, fun _ h => nomatch h⟩), (fun _ h => nomatch h), (List.forall_mem_cons.mpr ⟨(gb_w6 61 rfl rfl), fun _ h => nomatch h⟩), ((fun _ h => nomatch h))⟩
def gb_lkL : List (Nat × Nat) := [(102, 49), (124, 404), (139, 82), (159, 96), (114, 416), (131, 417), (142, 418), (152, 419), (72, 421), (78, 422), (147, 423), (81, 424), (51, 425), (69, 426), (66, 428), (105, 433), (108, 434), (111, 435), (121, 436), (174, 437), (167, 111), (117, 457), (96, 458), (7, 4), (13, 5), (17, 400), (23, 401), (128, 438), (27, 407), (134, 439), (33, 408), (136, 440), (36, 409), (145, 441), (39, 410), (150, 442), (42, 412), (155, 443), (45, 414), (157, 444), (48, 415), (170, 459), (54, 430), (57, 432), (60, 431), (63, 427), (75, 420), (84, 105), (90, 103), (162, 11)]
def gb_lnL : List (Nat × Nat) := []
set_option maxRecDepth 100000 in
theorem gb_nL : gb_Ln RL gb_lkL gb_lnL := ⟨(List.forall_mem_cons.mpr ⟨(gb_w2 218 rfl rfl), List.forall_mem_cons.mpr ⟨(gb_w3 175 rfl rfl), List.forall_mem_cons.mpr ⟨(gb_w4 46 rfl rfl), List.forall_mem_cons.mpr ⟨(gb_w4 119 rfl rfl), List.forall_mem_cons.mpr ⟨(gb_w4 136 rfl rfl), List.forall_mem_cons.mpr ⟨(gb_w4 163 rfl rfl), List.forall_mem_cons.mpr ⟨(gb_w4 177 rfl rfl), List.forall_mem_cons.mpr ⟨(gb_w4 193 rfl rfl), List.forall_mem_cons.mpr ⟨(gb_w4 210 rfl rfl), List.forall_mem_cons.mpr ⟨(gb_w4 215 rfl rfl), List.forall_mem_cons.mpr ⟨(gb_w4 236 rfl rfl), List.forall_mem_cons.mpr ⟨(gb_w5 5 rfl rfl), List.forall_mem_cons.mpr ⟨(gb_w5 37 rfl rfl), List.forall_mem_cons.mpr ⟨(gb_w5 44 rfl rfl), List.forall_mem_cons.mpr ⟨(gb_w5 59 rfl rfl), List.forall_mem_cons.mpr ⟨(gb_w5 66 rfl rfl), List.forall_mem_cons.mpr ⟨(gb_w5 82 rfl rfl), List.forall_mem_cons.mpr ⟨(gb_w5 87 rfl rfl), List.forall_mem_cons.mpr ⟨(gb_w5 96 rfl rfl), List.forall_mem_cons.mpr ⟨(gb_w5 122 rfl rfl), List.forall_mem_cons.mpr ⟨(gb_w5 150 rfl rfl), List.forall_mem_cons.mpr ⟨(gb_w5 154 rfl rfl), List.forall_mem_cons.mpr ⟨(gb_w5 157 rfl rfl), List.forall_mem_cons.mpr ⟨(gb_w5 160 rfl rfl), List.forall_mem_cons.mpr ⟨(gb_w5 161 rfl rfl), List.forall_mem_cons.mpr ⟨(gb_w5 162 rfl rfl), List.forall_mem_cons.mpr ⟨(gb_w5 172 rfl rfl), List.forall_mem_cons.mpr ⟨(gb_w5 177 rfl rfl), List.forall_mem_cons.mpr ⟨(gb_w5 181 rfl rfl), List.forall_mem_cons.mpr ⟨(gb_w5 195 rfl rfl), List.forall_mem_cons.mpr ⟨(gb_w5 198 rfl rfl), List.forall_mem_cons.mpr ⟨(gb_w5 211 rfl rfl), List.forall_mem_cons.mpr ⟨(gb_w5 214 rfl rfl), List.forall_mem_cons.mpr ⟨(gb_w5 219 rfl rfl), List.forall_mem_cons.mpr ⟨(gb_w5 222 rfl rfl), List.forall_mem_cons.mpr ⟨(gb_w5 231 rfl rfl), List.forall_mem_cons.mpr ⟨(gb_w5 234 rfl rfl), List.forall_mem_cons.mpr ⟨(gb_w6 3 rfl rfl), List.forall_mem_cons.mpr ⟨(gb_w6 6 rfl rfl), List.forall_mem_cons.mpr ⟨(gb_w6 15 rfl rfl), List.forall_mem_cons.mpr ⟨(gb_w6 18 rfl rfl), List.forall_mem_cons.mpr ⟨(gb_w6 27 rfl rfl), List.forall_mem_cons.mpr ⟨(gb_w6 30 rfl rfl), List.forall_mem_cons.mpr ⟨(gb_w6 34 rfl rfl), List.forall_mem_cons.mpr ⟨(gb_w6 38 rfl rfl), List.forall_mem_cons.mpr ⟨(gb_w6 42 rfl rfl), List.forall_mem_cons.mpr ⟨(gb_w6 47 rfl rfl), List.forall_mem_cons.mpr ⟨(gb_w6 51 rfl rfl), List.forall_mem_cons.mpr ⟨(gb_w6 62 rfl rfl), List.forall_mem_cons.mpr ⟨(gb_w6 70 rfl rfl), fun _ h => nomatch h⟩⟩⟩⟩⟩⟩⟩⟩⟩⟩⟩⟩⟩⟩⟩⟩⟩⟩⟩⟩⟩⟩⟩⟩⟩⟩⟩⟩⟩⟩⟩⟩⟩⟩⟩⟩⟩⟩⟩⟩⟩⟩⟩⟩⟩⟩⟩⟩⟩⟩), (fun _ h => nomatch h)⟩
def gb_flX0 : List (Nat × Nat × Nat) := [(85, 7, 3), (92, 7, 6), (106, 7, 8), (61, 7, 12), (47, 3, 1), (95, 3, 2), (29, 0, 0), (33, 0, 1), (14, 0, 2), (20, 0, 3), (23, 0, 4), (26, 0, 5), (37, 0, 6)]
def gb_slX0 : List (Nat × Nat) := []
def gb_nlX0 : List (Nat × Int32) := []
def gb_llX0 : List (Nat × Int32) := []
def gb_tlX0 : List (Nat × Nat × Nat) := []
theorem gb_oX0 : gb_Own RX0 gb_flX0 gb_slX0 gb_nlX0 gb_llX0 gb_tlX0 := ⟨(List.forall_mem_cons.mpr ⟨(gb_fo_of gb_kl7 rfl (by decide) (gb_w1 63 rfl rfl)), List.forall_mem_cons.mpr ⟨(gb_fo_of gb_kl7 rfl (by decide) (gb_w1 75 rfl rfl)), List.forall_mem_cons.mpr ⟨(gb_fo_of gb_kl7 rfl (by decide) (gb_w1 83 rfl rfl)), List.forall_mem_cons.mpr ⟨(gb_fo_of gb_kl7 rfl (by decide) (gb_w1 98 rfl rfl)), List.forall_mem_cons.mpr ⟨(gb_fo_of gb_kl3 rfl (by decide) (gb_w1 184 rfl rfl)), List.forall_mem_cons.mpr ⟨(gb_fo_of gb_kl3 rfl (by decide) (gb_w1 192 rfl rfl)), List.forall_mem_cons.mpr ⟨(gb_fo_of gb_kl0 rfl (by decide) (gb_w2 28 rfl rfl)), List.forall_mem_cons.mpr ⟨(gb_fo_of gb_kl0 rfl (by decide) (gb_w2 29 rfl rfl)), List.forall_mem_cons.mpr ⟨(gb_fo_of gb_kl0 rfl (by decide) (gb_w2 30 rfl rfl)), List.forall_mem_cons.mpr ⟨(gb_fo_of gb_kl0 rfl (by decide) (gb_w2 31 rfl rfl)), List.forall_mem_cons.mpr ⟨(gb_fo_of gb_kl0 rfl (by decide) (gb_w2 32 rfl rfl)), List.forall_mem_cons.mpr ⟨(gb_fo_of gb_kl0 rfl (by decide) (gb_w2 33 rfl rfl)), List.forall_mem_cons.mpr ⟨(gb_fo_of gb_kl0 rfl (by decide) (gb_w2 36 rfl rfl)), fun _ h => nomatch h⟩⟩⟩⟩⟩⟩⟩⟩⟩⟩⟩⟩⟩), (fun _ h => nomatch h), (fun _ h => nomatch h), (fun _ h => nomatch h), ((fun _ h => nomatch h))⟩
def gb_lkX0 : List (Nat × Nat) := [(41, 64), (50, 1), (54, 71), (82, 43), (88, 44), (57, 73), (69, 2), (97, 57), (66, 72), (73, 74), (103, 60), (76, 78), (109, 76), (112, 77), (79, 75)]
def gb_lnX0 : List (Nat × Nat) := [(100, 27)]
set_option maxRecDepth 100000 in
theorem gb_nX0 : gb_Ln RX0 gb_lkX0 gb_lnX0 := ⟨(List.forall_mem_cons.mpr ⟨(gb_w4 62 rfl rfl), List.forall_mem_cons.mpr ⟨(gb_w4 66 rfl rfl), List.forall_mem_cons.mpr ⟨(gb_w4 67 rfl rfl), List.forall_mem_cons.mpr ⟨(gb_w4 71 rfl rfl), List.forall_mem_cons.mpr ⟨(gb_w4 72 rfl rfl), List.forall_mem_cons.mpr ⟨(gb_w4 73 rfl rfl), List.forall_mem_cons.mpr ⟨(gb_w4 77 rfl rfl), List.forall_mem_cons.mpr ⟨(gb_w4 78 rfl rfl), List.forall_mem_cons.mpr ⟨(gb_w4 82 rfl rfl), List.forall_mem_cons.mpr ⟨(gb_w4 86 rfl rfl), List.forall_mem_cons.mpr ⟨(gb_w4 91 rfl rfl), List.forall_mem_cons.mpr ⟨(gb_w4 95 rfl rfl), List.forall_mem_cons.mpr ⟨(gb_w4 99 rfl rfl), List.forall_mem_cons.mpr ⟨(gb_w4 103 rfl rfl), List.forall_mem_cons.mpr ⟨(gb_w4 107 rfl rfl), fun _ h => nomatch h⟩⟩⟩⟩⟩⟩⟩⟩⟩⟩⟩⟩⟩⟩⟩), (List.forall_mem_cons.mpr ⟨⟨rfl, _, List.mem_of_getElem? (i := 6) rfl⟩, fun _ h => nomatch h⟩)⟩
def gb_flX1 : List (Nat × Nat × Nat) := [(32, 3, 1), (44, 3, 2), (47, 3, 3), (50, 3, 4), (53, 3, 5), (20, 1, 0), (16, 1, 1), (56, 1, 2), (24, 1, 3)]
def gb_slX1 : List (Nat × Nat) := []
def gb_nlX1 : List (Nat × Int32) := []
def gb_llX1 : List (Nat × Int32) := []
def gb_tlX1 : List (Nat × Nat × Nat) := []
theorem gb_oX1 : gb_Own RX1 gb_flX1 gb_slX1 gb_nlX1 gb_llX1 gb_tlX1 := ⟨(List.forall_mem_cons.mpr ⟨(gb_fo_of gb_kl3 rfl (by decide) (gb_w1 185 rfl rfl)), List.forall_mem_cons.mpr ⟨(gb_fo_of gb_kl3 rfl (by decide) (gb_w1 189 rfl rfl)), List.forall_mem_cons.mpr ⟨(gb_fo_of gb_kl3 rfl (by decide) (gb_w1 196 rfl rfl)), List.forall_mem_cons.mpr ⟨(gb_fo_of gb_kl3 rfl (by decide) (gb_w1 201 rfl rfl)), List.forall_mem_cons.mpr ⟨(gb_fo_of gb_kl3 rfl (by decide) (gb_w1 204 rfl rfl)), List.forall_mem_cons.mpr ⟨(gb_fo_of gb_kl1 rfl (by decide) (gb_w2 80 rfl rfl)), List.forall_mem_cons.mpr ⟨(gb_fo_of gb_kl1 rfl (by decide) (gb_w2 81 rfl rfl)), List.forall_mem_cons.mpr ⟨(gb_fo_of gb_kl1 rfl (by decide) (gb_w2 82 rfl rfl)), List.forall_mem_cons.mpr ⟨(gb_fo_of gb_kl1 rfl (by decide) (gb_w2 83 rfl rfl)), fun _ h => nomatch h⟩⟩⟩⟩⟩⟩⟩⟩⟩), (fun _ h => nomatch h), (fun _ h => nomatch h), (fun _ h => nomatch h), ((fun _ h => nomatch h))⟩
def gb_lkX1 : List (Nat × Nat) := [(28, 51), (37, 1), (40, 2), (59, 109)]
def gb_lnX1 : List (Nat × Nat) := []
set_option maxRecDepth 100000 in
theorem gb_nX1 : gb_Ln RX1 gb_lkX1 gb_lnX1 := ⟨(List.forall_mem_cons.mpr ⟨(gb_w4 25 rfl rfl), List.forall_mem_cons.mpr ⟨(gb_w4 29 rfl rfl), List.forall_mem_cons.mpr ⟨(gb_w4 30 rfl rfl), List.forall_mem_cons.mpr ⟨(gb_w5 146 rfl rfl), fun _ h => nomatch h⟩⟩⟩⟩), (fun _ h => nomatch h)⟩
def gb_flX2 : List (Nat × Nat × Nat) := [(91, 7, 6), (98, 3, 1), (95, 3, 2), (144, 3, 3), (75, 3, 5), (128, 0, 5), (7, 2, 0), (13, 2, 1), (17, 2, 2), (21, 2, 3)]
def gb_slX2 : List (Nat × Nat) := []
def gb_nlX2 : List (Nat × Int32) := []
def gb_llX2 : List (Nat × Int32) := []
def gb_tlX2 : List (Nat × Nat × Nat) := []
theorem gb_oX2 : gb_Own RX2 gb_flX2 gb_slX2 gb_nlX2 gb_llX2 gb_tlX2 := ⟨(List.forall_mem_cons.mpr ⟨(gb_fo_of gb_kl7 rfl (by decide) (gb_w1 74 rfl rfl)), List.forall_mem_cons.mpr ⟨(gb_fo_of gb_kl3 rfl (by decide) (gb_w1 186 rfl rfl)), List.forall_mem_cons.mpr ⟨(gb_fo_of gb_kl3 rfl (by decide) (gb_w1 191 rfl rfl)), List.forall_mem_cons.mpr ⟨(gb_fo_of gb_kl3 rfl (by decide) (gb_w1 198 rfl rfl)), List.forall_mem_cons.mpr ⟨(gb_fo_of gb_kl3 rfl (by decide) (gb_w1 203 rfl rfl)), List.forall_mem_cons.mpr ⟨(gb_fo_of gb_kl0 rfl (by decide) (gb_w2 34 rfl rfl)), List.forall_mem_cons.mpr ⟨(gb_fo_of gb_kl2 rfl (by decide) (gb_w2 59 rfl rfl)), List.forall_mem_cons.mpr ⟨(gb_fo_of gb_kl2 rfl (by decide) (gb_w2 60 rfl rfl)), List.forall_mem_cons.mpr ⟨(gb_fo_of gb_kl2 rfl (by decide) (gb_w2 61 rfl rfl)), List.forall_mem_cons.mpr ⟨(gb_fo_of gb_kl2 rfl (by decide) (gb_w2 62 rfl rfl)), fun _ h => nomatch h⟩⟩⟩⟩⟩⟩⟩⟩⟩⟩), (fun _ h => nomatch h), (fun _ h => nomatch h), (fun _ h => nomatch h), ((fun _ h => nomatch h))⟩
def gb_lkX2 : List (Nat × Nat) := [(81, 1), (87, 2), (101, 43), (104, 53), (54, 80), (123, 79), (131, 58), (114, 62), (108, 61), (117, 67), (120, 68), (135, 85), (138, 88), (141, 91), (147, 64)]
def gb_lnX2 : List (Nat × Nat) := []
set_option maxRecDepth 100000 in
theorem gb_nX2 : gb_Ln RX2 gb_lkX2 gb_lnX2 := ⟨(List.forall_mem_cons.mpr ⟨(gb_w4 35 rfl rfl), List.forall_mem_cons.mpr ⟨(gb_w4 36 rfl rfl), List.forall_mem_cons.mpr ⟨(gb_w4 37 rfl rfl), List.forall_mem_cons.mpr ⟨(gb_w4 38 rfl rfl), List.forall_mem_cons.mpr ⟨(gb_w4 54 rfl rfl), List.forall_mem_cons.mpr ⟨(gb_w4 58 rfl rfl), List.forall_mem_cons.mpr ⟨(gb_w4 111 rfl rfl), List.forall_mem_cons.mpr ⟨(gb_w4 115 rfl rfl), List.forall_mem_cons.mpr ⟨(gb_w5 189 rfl rfl), List.forall_mem_cons.mpr ⟨(gb_w5 206 rfl rfl), List.forall_mem_cons.mpr ⟨(gb_w5 207 rfl rfl), List.forall_mem_cons.mpr ⟨(gb_w5 230 rfl rfl), List.forall_mem_cons.mpr ⟨(gb_w6 2 rfl rfl), List.forall_mem_cons.mpr ⟨(gb_w6 14 rfl rfl), List.forall_mem_cons.mpr ⟨(gb_w6 26 rfl rfl), fun _ h => nomatch h⟩⟩⟩⟩⟩⟩⟩⟩⟩⟩⟩⟩⟩⟩⟩), (fun _ h => nomatch h)⟩
def gb_flX3 : List (Nat × Nat × Nat) := [(79, 7, 1), (43, 7, 6), (49, 7, 13), (56, 7, 14), (59, 7, 15), (32, 3, 0), (14, 3, 1), (20, 3, 2), (23, 3, 3), (26, 3, 4), (29, 3, 5)]
def gb_slX3 : List (Nat × Nat) := []
def gb_nlX3 : List (Nat × Int32) := []
def gb_llX3 : List (Nat × Int32) := []
def gb_tlX3 : List (Nat × Nat × Nat) := []
theorem gb_oX3 : gb_Own RX3 gb_flX3 gb_slX3 gb_nlX3 gb_llX3 gb_tlX3 := ⟨(List.forall_mem_cons.mpr ⟨(gb_fo_of gb_kl7 rfl (by decide) (gb_w1 57 rfl rfl)), List.forall_mem_cons.mpr ⟨(gb_fo_of gb_kl7 rfl (by decide) (gb_w1 73 rfl rfl)), List.forall_mem_cons.mpr ⟨(gb_fo_of gb_kl7 rfl (by decide) (gb_w1 102 rfl rfl)), List.forall_mem_cons.mpr ⟨(gb_fo_of gb_kl7 rfl (by decide) (gb_w1 105 rfl rfl)), List.forall_mem_cons.mpr ⟨(gb_fo_of gb_kl7 rfl (by decide) (gb_w1 109 rfl rfl)), List.forall_mem_cons.mpr ⟨(gb_fo_of gb_kl3 rfl (by decide) (gb_w1 181 rfl rfl)), List.forall_mem_cons.mpr ⟨(gb_fo_of gb_kl3 rfl (by decide) (gb_w1 182 rfl rfl)), List.forall_mem_cons.mpr ⟨(gb_fo_of gb_kl3 rfl (by decide) (gb_w1 188 rfl rfl)), List.forall_mem_cons.mpr ⟨(gb_fo_of gb_kl3 rfl (by decide) (gb_w1 195 rfl rfl)), List.forall_mem_cons.mpr ⟨(gb_fo_of gb_kl3 rfl (by decide) (gb_w1 200 rfl rfl)), List.forall_mem_cons.mpr ⟨(gb_fo_of gb_kl3 rfl (by decide) (gb_w1 202 rfl rfl)), fun _ h => nomatch h⟩⟩⟩⟩⟩⟩⟩⟩⟩⟩⟩), (fun _ h => nomatch h), (fun _ h => nomatch h), (fun _ h => nomatch h), ((fun _ h => nomatch h))⟩
def gb_lkX3 : List (Nat × Nat) := [(36, 2), (40, 46), (52, 1), (62, 45), (69, 43), (72, 44), (97, 94), (75, 65), (86, 97), (82, 58), (90, 99), (94, 98)]
def gb_lnX3 : List (Nat × Nat) := [(66, 27)]
set_option maxRecDepth 100000 in
theorem gb_nX3 : gb_Ln RX3 gb_lkX3 gb_lnX3 := ⟨(List.forall_mem_cons.mpr ⟨(gb_w1 223 rfl rfl), List.forall_mem_cons.mpr ⟨(gb_w1 224 rfl rfl), List.forall_mem_cons.mpr ⟨(gb_w1 228 rfl rfl), List.forall_mem_cons.mpr ⟨(gb_w1 232 rfl rfl), List.forall_mem_cons.mpr ⟨(gb_w1 236 rfl rfl), List.forall_mem_cons.mpr ⟨(gb_w2 0 rfl rfl), List.forall_mem_cons.mpr ⟨(gb_w4 127 rfl rfl), List.forall_mem_cons.mpr ⟨(gb_w4 131 rfl rfl), List.forall_mem_cons.mpr ⟨(gb_w5 13 rfl rfl), List.forall_mem_cons.mpr ⟨(gb_w5 95 rfl rfl), List.forall_mem_cons.mpr ⟨(gb_w6 59 rfl rfl), List.forall_mem_cons.mpr ⟨(gb_w6 60 rfl rfl), fun _ h => nomatch h⟩⟩⟩⟩⟩⟩⟩⟩⟩⟩⟩⟩), (List.forall_mem_cons.mpr ⟨⟨rfl, _, List.mem_of_getElem? (i := 1) rfl⟩, fun _ h => nomatch h⟩)⟩
def gb_flX4 : List (Nat × Nat × Nat) := [(89, 7, 7), (53, 7, 8), (86, 7, 10), (66, 7, 11), (39, 7, 12), (19, 3, 1), (72, 3, 2), (79, 3, 3), (9, 4, 0), (15, 4, 1)]
def gb_slX4 : List (Nat × Nat) := []
def gb_nlX4 : List (Nat × Int32) := []
def gb_llX4 : List (Nat × Int32) := []
def gb_tlX4 : List (Nat × Nat × Nat) := []
theorem gb_oX4 : gb_Own RX4 gb_flX4 gb_slX4 gb_nlX4 gb_llX4 gb_tlX4 := ⟨(List.forall_mem_cons.mpr ⟨(gb_fo_of gb_kl7 rfl (by decide) (gb_w1 78 rfl rfl)), List.forall_mem_cons.mpr ⟨(gb_fo_of gb_kl7 rfl (by decide) (gb_w1 82 rfl rfl)), List.forall_mem_cons.mpr ⟨(gb_fo_of gb_kl7 rfl (by decide) (gb_w1 88 rfl rfl)), List.forall_mem_cons.mpr ⟨(gb_fo_of gb_kl7 rfl (by decide) (gb_w1 93 rfl rfl)), List.forall_mem_cons.mpr ⟨(gb_fo_of gb_kl7 rfl (by decide) (gb_w1 97 rfl rfl)), List.forall_mem_cons.mpr ⟨(gb_fo_of gb_kl3 rfl (by decide) (gb_w1 183 rfl rfl)), List.forall_mem_cons.mpr ⟨(gb_fo_of gb_kl3 rfl (by decide) (gb_w1 193 rfl rfl)), List.forall_mem_cons.mpr ⟨(gb_fo_of gb_kl3 rfl (by decide) (gb_w1 197 rfl rfl)), List.forall_mem_cons.mpr ⟨(gb_fo_of gb_kl4 rfl (by decide) (gb_w2 13 rfl rfl)), List.forall_mem_cons.mpr ⟨(gb_fo_of gb_kl4 rfl (by decide) (gb_w2 14 rfl rfl)), fun _ h => nomatch h⟩⟩⟩⟩⟩⟩⟩⟩⟩⟩), (fun _ h => nomatch h), (fun _ h => nomatch h), (fun _ h => nomatch h), ((fun _ h => nomatch h))⟩
def gb_lkX4 : List (Nat × Nat) := [(25, 1), (31, 57), (35, 45), (44, 37), (47, 59), (82, 58), (50, 60), (56, 64), (59, 43), (62, 66), (69, 83), (75, 84)]
def gb_lnX4 : List (Nat × Nat) := []
set_option maxRecDepth 100000 in
theorem gb_nX4 : gb_Ln RX4 gb_lkX4 gb_lnX4 := ⟨(List.forall_mem_cons.mpr ⟨(gb_w4 153 rfl rfl), List.forall_mem_cons.mpr ⟨(gb_w4 154 rfl rfl), List.forall_mem_cons.mpr ⟨(gb_w4 155 rfl rfl), List.forall_mem_cons.mpr ⟨(gb_w4 156 rfl rfl), List.forall_mem_cons.mpr ⟨(gb_w4 157 rfl rfl), List.forall_mem_cons.mpr ⟨(gb_w4 161 rfl rfl), List.forall_mem_cons.mpr ⟨(gb_w4 162 rfl rfl), List.forall_mem_cons.mpr ⟨(gb_w4 171 rfl rfl), List.forall_mem_cons.mpr ⟨(gb_w4 172 rfl rfl), List.forall_mem_cons.mpr ⟨(gb_w4 173 rfl rfl), List.forall_mem_cons.mpr ⟨(gb_w4 185 rfl rfl), List.forall_mem_cons.mpr ⟨(gb_w4 189 rfl rfl), fun _ h => nomatch h⟩⟩⟩⟩⟩⟩⟩⟩⟩⟩⟩⟩), (fun _ h => nomatch h)⟩
def gb_flX5 : List (Nat × Nat × Nat) := [(32, 7, 0), (37, 7, 1), (43, 7, 11), (55, 7, 12), (66, 3, 2), (20, 5, 0), (24, 5, 1), (16, 5, 2), (28, 5, 3)]
def gb_slX5 : List (Nat × Nat) := []
def gb_nlX5 : List (Nat × Int32) := []
def gb_llX5 : List (Nat × Int32) := []
def gb_tlX5 : List (Nat × Nat × Nat) := []
theorem gb_oX5 : gb_Own RX5 gb_flX5 gb_slX5 gb_nlX5 gb_llX5 gb_tlX5 := ⟨(List.forall_mem_cons.mpr ⟨(gb_fo_of gb_kl7 rfl (by decide) (gb_w1 51 rfl rfl)), List.forall_mem_cons.mpr ⟨(gb_fo_of gb_kl7 rfl (by decide) (gb_w1 55 rfl rfl)), List.forall_mem_cons.mpr ⟨(gb_fo_of gb_kl7 rfl (by decide) (gb_w1 92 rfl rfl)), List.forall_mem_cons.mpr ⟨(gb_fo_of gb_kl7 rfl (by decide) (gb_w1 99 rfl rfl)), List.forall_mem_cons.mpr ⟨(gb_fo_of gb_kl3 rfl (by decide) (gb_w1 190 rfl rfl)), List.forall_mem_cons.mpr ⟨(gb_fo_of gb_kl5 rfl (by decide) (gb_w2 173 rfl rfl)), List.forall_mem_cons.mpr ⟨(gb_fo_of gb_kl5 rfl (by decide) (gb_w2 174 rfl rfl)), List.forall_mem_cons.mpr ⟨(gb_fo_of gb_kl5 rfl (by decide) (gb_w2 175 rfl rfl)), List.forall_mem_cons.mpr ⟨(gb_fo_of gb_kl5 rfl (by decide) (gb_w2 176 rfl rfl)), fun _ h => nomatch h⟩⟩⟩⟩⟩⟩⟩⟩⟩), (fun _ h => nomatch h), (fun _ h => nomatch h), (fun _ h => nomatch h), ((fun _ h => nomatch h))⟩
def gb_lkX5 : List (Nat × Nat) := [(40, 106), (72, 2), (46, 58), (52, 107), (58, 1), (62, 64), (69, 65)]
def gb_lnX5 : List (Nat × Nat) := []
set_option maxRecDepth 100000 in
theorem gb_nX5 : gb_Ln RX5 gb_lkX5 gb_lnX5 := ⟨(List.forall_mem_cons.mpr ⟨(gb_w5 109 rfl rfl), List.forall_mem_cons.mpr ⟨(gb_w5 113 rfl rfl), List.forall_mem_cons.mpr ⟨(gb_w5 114 rfl rfl), List.forall_mem_cons.mpr ⟨(gb_w5 115 rfl rfl), List.forall_mem_cons.mpr ⟨(gb_w5 119 rfl rfl), List.forall_mem_cons.mpr ⟨(gb_w5 120 rfl rfl), List.forall_mem_cons.mpr ⟨(gb_w5 121 rfl rfl), fun _ h => nomatch h⟩⟩⟩⟩⟩⟩⟩), (fun _ h => nomatch h)⟩
def gb_flX6 : List (Nat × Nat × Nat) := [(9, 6, 0)]
def gb_slX6 : List (Nat × Nat) := []
def gb_nlX6 : List (Nat × Int32) := []
def gb_llX6 : List (Nat × Int32) := []
def gb_tlX6 : List (Nat × Nat × Nat) := []
theorem gb_oX6 : gb_Own RX6 gb_flX6 gb_slX6 gb_nlX6 gb_llX6 gb_tlX6 := ⟨(List.forall_mem_cons.mpr ⟨(gb_fo_of gb_kl6 rfl (by decide) (gb_w1 45 rfl rfl)), fun _ h => nomatch h⟩), (fun _ h => nomatch h), (fun _ h => nomatch h), (fun _ h => nomatch h), ((fun _ h => nomatch h))⟩
def gb_lkX6 : List (Nat × Nat) := [(15, 1)]
def gb_lnX6 : List (Nat × Nat) := []
set_option maxRecDepth 100000 in
theorem gb_nX6 : gb_Ln RX6 gb_lkX6 gb_lnX6 := ⟨(List.forall_mem_cons.mpr ⟨(gb_w3 169 rfl rfl), fun _ h => nomatch h⟩), (fun _ h => nomatch h)⟩
def gb_flX7 : List (Nat × Nat × Nat) := [(44, 7, 0), (48, 7, 1), (51, 7, 2), (54, 7, 3), (57, 7, 4), (60, 7, 5), (63, 7, 6), (14, 7, 7), (20, 7, 8), (23, 7, 9), (26, 7, 10), (29, 7, 11), (32, 7, 12), (35, 7, 13), (38, 7, 14), (41, 7, 15)]
def gb_slX7 : List (Nat × Nat) := []
def gb_nlX7 : List (Nat × Int32) := []
def gb_llX7 : List (Nat × Int32) := []
def gb_tlX7 : List (Nat × Nat × Nat) := []
theorem gb_oX7 : gb_Own RX7 gb_flX7 gb_slX7 gb_nlX7 gb_llX7 gb_tlX7 := ⟨(List.forall_mem_cons.mpr ⟨(gb_fo_of gb_kl7 rfl (by decide) (gb_w1 50 rfl rfl)), List.forall_mem_cons.mpr ⟨(gb_fo_of gb_kl7 rfl (by decide) (gb_w1 54 rfl rfl)), List.forall_mem_cons.mpr ⟨(gb_fo_of gb_kl7 rfl (by decide) (gb_w1 59 rfl rfl)), List.forall_mem_cons.mpr ⟨(gb_fo_of gb_kl7 rfl (by decide) (gb_w1 62 rfl rfl)), List.forall_mem_cons.mpr ⟨(gb_fo_of gb_kl7 rfl (by decide) (gb_w1 66 rfl rfl)), List.forall_mem_cons.mpr ⟨(gb_fo_of gb_kl7 rfl (by decide) (gb_w1 69 rfl rfl)), List.forall_mem_cons.mpr ⟨(gb_fo_of gb_kl7 rfl (by decide) (gb_w1 72 rfl rfl)), List.forall_mem_cons.mpr ⟨(gb_fo_of gb_kl7 rfl (by decide) (gb_w1 77 rfl rfl)), List.forall_mem_cons.mpr ⟨(gb_fo_of gb_kl7 rfl (by decide) (gb_w1 81 rfl rfl)), List.forall_mem_cons.mpr ⟨(gb_fo_of gb_kl7 rfl (by decide) (gb_w1 85 rfl rfl)), List.forall_mem_cons.mpr ⟨(gb_fo_of gb_kl7 rfl (by decide) (gb_w1 87 rfl rfl)), List.forall_mem_cons.mpr ⟨(gb_fo_of gb_kl7 rfl (by decide) (gb_w1 91 rfl rfl)), List.forall_mem_cons.mpr ⟨(gb_fo_of gb_kl7 rfl (by decide) (gb_w1 96 rfl rfl)), List.forall_mem_cons.mpr ⟨(gb_fo_of gb_kl7 rfl (by decide) (gb_w1 101 rfl rfl)), List.forall_mem_cons.mpr ⟨(gb_fo_of gb_kl7 rfl (by decide) (gb_w1 104 rfl rfl)), List.forall_mem_cons.mpr ⟨(gb_fo_of gb_kl7 rfl (by decide) (gb_w1 108 rfl rfl)), fun _ h => nomatch h⟩⟩⟩⟩⟩⟩⟩⟩⟩⟩⟩⟩⟩⟩⟩⟩), (fun _ h => nomatch h), (fun _ h => nomatch h), (fun _ h => nomatch h), ((fun _ h => nomatch h))⟩
def gb_lkX7 : List (Nat × Nat) := [(66, 7), (69, 24), (87, 2), (72, 26), (76, 30), (79, 38), (98, 1), (94, 36), (83, 3), (90, 33)]
def gb_lnX7 : List (Nat × Nat) := [(102, 27)]
set_option maxRecDepth 100000 in
theorem gb_nX7 : gb_Ln RX7 gb_lkX7 gb_lnX7 := ⟨(List.forall_mem_cons.mpr ⟨(gb_w1 149 rfl rfl), List.forall_mem_cons.mpr ⟨(gb_w1 153 rfl rfl), List.forall_mem_cons.mpr ⟨(gb_w1 157 rfl rfl), List.forall_mem_cons.mpr ⟨(gb_w1 161 rfl rfl), List.forall_mem_cons.mpr ⟨(gb_w1 165 rfl rfl), List.forall_mem_cons.mpr ⟨(gb_w1 169 rfl rfl), List.forall_mem_cons.mpr ⟨(gb_w3 149 rfl rfl), List.forall_mem_cons.mpr ⟨(gb_w3 154 rfl rfl), List.forall_mem_cons.mpr ⟨(gb_w3 165 rfl rfl), List.forall_mem_cons.mpr ⟨(gb_w5 78 rfl rfl), fun _ h => nomatch h⟩⟩⟩⟩⟩⟩⟩⟩⟩⟩), (List.forall_mem_cons.mpr ⟨⟨rfl, _, List.mem_of_getElem? (i := 5) rfl⟩, fun _ h => nomatch h⟩)⟩
def gb_flX8 : List (Nat × Nat × Nat) := [(63, 7, 0), (67, 7, 1), (94, 7, 2), (138, 7, 3), (147, 7, 4), (114, 7, 5), (159, 7, 7), (150, 7, 10), (127, 7, 11), (135, 7, 14), (144, 7, 15), (91, 10, 2), (169, 10, 3), (97, 10, 5), (18, 8, 0), (12, 8, 1)]
def gb_slX8 : List (Nat × Nat) := [(49, 0), (73, 1), (86, 2), (107, 3), (112, 4), (116, 5)]
def gb_nlX8 : List (Nat × Int32) := []
def gb_llX8 : List (Nat × Int32) := []
def gb_tlX8 : List (Nat × Nat × Nat) := []
theorem gb_oX8 : gb_Own RX8 gb_flX8 gb_slX8 gb_nlX8 gb_llX8 gb_tlX8 := ⟨(List.forall_mem_cons.mpr ⟨(gb_fo_of gb_kl7 rfl (by decide) (gb_w1 52 rfl rfl)), List.forall_mem_cons.mpr ⟨(gb_fo_of gb_kl7 rfl (by decide) (gb_w1 56 rfl rfl)), List.forall_mem_cons.mpr ⟨(gb_fo_of gb_kl7 rfl (by decide) (gb_w1 60 rfl rfl)), List.forall_mem_cons.mpr ⟨(gb_fo_of gb_kl7 rfl (by decide) (gb_w1 64 rfl rfl)), List.forall_mem_cons.mpr ⟨(gb_fo_of gb_kl7 rfl (by decide) (gb_w1 67 rfl rfl)), List.forall_mem_cons.mpr ⟨(gb_fo_of gb_kl7 rfl (by decide) (gb_w1 70 rfl rfl)), List.forall_mem_cons.mpr ⟨(gb_fo_of gb_kl7 rfl (by decide) (gb_w1 79 rfl rfl)), List.forall_mem_cons.mpr ⟨(gb_fo_of gb_kl7 rfl (by decide) (gb_w1 89 rfl rfl)), List.forall_mem_cons.mpr ⟨(gb_fo_of gb_kl7 rfl (by decide) (gb_w1 94 rfl rfl)), List.forall_mem_cons.mpr ⟨(gb_fo_of gb_kl7 rfl (by decide) (gb_w1 106 rfl rfl)), List.forall_mem_cons.mpr ⟨(gb_fo_of gb_kl7 rfl (by decide) (gb_w1 110 rfl rfl)), List.forall_mem_cons.mpr ⟨(gb_fo_of gb_kl10 rfl (by decide) (gb_w2 106 rfl rfl)), List.forall_mem_cons.mpr ⟨(gb_fo_of gb_kl10 rfl (by decide) (gb_w2 108 rfl rfl)), List.forall_mem_cons.mpr ⟨(gb_fo_of gb_kl10 rfl (by decide) (gb_w2 110 rfl rfl)), List.forall_mem_cons.mpr ⟨(gb_fo_of gb_kl8 rfl (by decide) (gb_w2 139 rfl rfl)), List.forall_mem_cons.mpr ⟨(gb_fo_of gb_kl8 rfl (by decide) (gb_w2 140 rfl rfl)), fun _ h => nomatch h⟩⟩⟩⟩⟩⟩⟩⟩⟩⟩⟩⟩⟩⟩⟩⟩), (List.forall_mem_cons.mpr ⟨⟨_, List.mem_of_getElem? (i := 0) rfl⟩, List.forall_mem_cons.mpr ⟨⟨_, List.mem_of_getElem? (i := 1) rfl⟩, List.forall_mem_cons.mpr ⟨⟨_, List.mem_of_getElem? (i := 2) rfl⟩, List.forall_mem_cons.mpr ⟨⟨_, List.mem_of_getElem? (i := 3) rfl⟩, List.forall_mem_cons.mpr ⟨⟨_, List.mem_of_getElem? (i := 4) rfl⟩, List.forall_mem_cons.mpr ⟨⟨_, List.mem_of_getElem? (i := 5) rfl⟩, fun _ h => nomatch h⟩⟩⟩⟩⟩⟩), (fun _ h => nomatch h), (fun _ h => nomatch h), ((fun _ h => nomatch h))⟩
def gb_lkX8 : List (Nat × Nat) := [(22, 7), (25, 15), (30, 23), (51, 19), (75, 16), (78, 18), (172, 17), (118, 14), (55, 20), (59, 21), (70, 22), (34, 25), (82, 24), (37, 29), (88, 28), (103, 26), (40, 31), (109, 30), (43, 32), (46, 40), (121, 39), (124, 33), (131, 35), (166, 34), (141, 37), (153, 1), (162, 38)]
def gb_lnX8 : List (Nat × Nat) := [(100, 27)]
set_option maxRecDepth 100000 in
theorem gb_nX8 : gb_Ln RX8 gb_lkX8 gb_lnX8 := ⟨(List.forall_mem_cons.mpr ⟨(gb_w2 226 rfl rfl), List.forall_mem_cons.mpr ⟨(gb_w2 227 rfl rfl), List.forall_mem_cons.mpr ⟨(gb_w3 18 rfl rfl), List.forall_mem_cons.mpr ⟨(gb_w3 23 rfl rfl), List.forall_mem_cons.mpr ⟨(gb_w3 27 rfl rfl), List.forall_mem_cons.mpr ⟨(gb_w3 79 rfl rfl), List.forall_mem_cons.mpr ⟨(gb_w3 83 rfl rfl), List.forall_mem_cons.mpr ⟨(gb_w3 87 rfl rfl), List.forall_mem_cons.mpr ⟨(gb_w3 88 rfl rfl), List.forall_mem_cons.mpr ⟨(gb_w3 92 rfl rfl), List.forall_mem_cons.mpr ⟨(gb_w3 96 rfl rfl), List.forall_mem_cons.mpr ⟨(gb_w3 100 rfl rfl), List.forall_mem_cons.mpr ⟨(gb_w3 105 rfl rfl), List.forall_mem_cons.mpr ⟨(gb_w3 106 rfl rfl), List.forall_mem_cons.mpr ⟨(gb_w3 111 rfl rfl), List.forall_mem_cons.mpr ⟨(gb_w3 116 rfl rfl), List.forall_mem_cons.mpr ⟨(gb_w3 117 rfl rfl), List.forall_mem_cons.mpr ⟨(gb_w3 122 rfl rfl), List.forall_mem_cons.mpr ⟨(gb_w3 123 rfl rfl), List.forall_mem_cons.mpr ⟨(gb_w3 128 rfl rfl), List.forall_mem_cons.mpr ⟨(gb_w3 133 rfl rfl), List.forall_mem_cons.mpr ⟨(gb_w3 137 rfl rfl), List.forall_mem_cons.mpr ⟨(gb_w3 141 rfl rfl), List.forall_mem_cons.mpr ⟨(gb_w3 145 rfl rfl), List.forall_mem_cons.mpr ⟨(gb_w3 150 rfl rfl), List.forall_mem_cons.mpr ⟨(gb_w3 159 rfl rfl), List.forall_mem_cons.mpr ⟨(gb_w3 160 rfl rfl), fun _ h => nomatch h⟩⟩⟩⟩⟩⟩⟩⟩⟩⟩⟩⟩⟩⟩⟩⟩⟩⟩⟩⟩⟩⟩⟩⟩⟩⟩⟩), (List.forall_mem_cons.mpr ⟨⟨rfl, _, List.mem_of_getElem? (i := 4) rfl⟩, fun _ h => nomatch h⟩)⟩
def gb_flX9 : List (Nat × Nat × Nat) := [(9, 9, 0)]
def gb_slX9 : List (Nat × Nat) := []
def gb_nlX9 : List (Nat × Int32) := []
def gb_llX9 : List (Nat × Int32) := []
def gb_tlX9 : List (Nat × Nat × Nat) := []
theorem gb_oX9 : gb_Own RX9 gb_flX9 gb_slX9 gb_nlX9 gb_llX9 gb_tlX9 := ⟨(List.forall_mem_cons.mpr ⟨(gb_fo_of gb_kl9 rfl (by decide) (gb_w2 153 rfl rfl)), fun _ h => nomatch h⟩), (fun _ h => nomatch h), (fun _ h => nomatch h), (fun _ h => nomatch h), ((fun _ h => nomatch h))⟩
def gb_lkX9 : List (Nat × Nat) := []
def gb_lnX9 : List (Nat × Nat) := []
set_option maxRecDepth 100000 in
theorem gb_nX9 : gb_Ln RX9 gb_lkX9 gb_lnX9 := ⟨(fun _ h => nomatch h), (fun _ h => nomatch h)⟩
def gb_flX10 : List (Nat × Nat × Nat) := [(14, 10, 0), (24, 10, 1), (50, 10, 2), (44, 10, 3), (34, 10, 4), (75, 10, 5), (31, 10, 6), (20, 10, 7)]
def gb_slX10 : List (Nat × Nat) := []
def gb_nlX10 : List (Nat × Int32) := [(78, 1000000)]
def gb_llX10 : List (Nat × Int32) := []
def gb_tlX10 : List (Nat × Nat × Nat) := []
theorem gb_oX10 : gb_Own RX10 gb_flX10 gb_slX10 gb_nlX10 gb_llX10 gb_tlX10 := ⟨(List.forall_mem_cons.mpr ⟨(gb_fo_of gb_kl10 rfl (by decide) (gb_w2 102 rfl rfl)), List.forall_mem_cons.mpr ⟨(gb_fo_of gb_kl10 rfl (by decide) (gb_w2 104 rfl rfl)), List.forall_mem_cons.mpr ⟨(gb_fo_of gb_kl10 rfl (by decide) (gb_w2 105 rfl rfl)), List.forall_mem_cons.mpr ⟨(gb_fo_of gb_kl10 rfl (by decide) (gb_w2 107 rfl rfl)), List.forall_mem_cons.mpr ⟨(gb_fo_of gb_kl10 rfl (by decide) (gb_w2 109 rfl rfl)), List.forall_mem_cons.mpr ⟨(gb_fo_of gb_kl10 rfl (by decide) (gb_w2 111 rfl rfl)), List.forall_mem_cons.mpr ⟨(gb_fo_of gb_kl10 rfl (by decide) (gb_w2 112 rfl rfl)), List.forall_mem_cons.mpr ⟨(gb_fo_of gb_kl10 rfl (by decide) (gb_w2 113 rfl rfl)), fun _ h => nomatch h⟩⟩⟩⟩⟩⟩⟩⟩), (fun _ h => nomatch h), (List.forall_mem_cons.mpr ⟨(gb_w3 14 rfl rfl), fun _ h => nomatch h⟩), (fun _ h => nomatch h), ((fun _ h => nomatch h))⟩
def gb_lkX10 : List (Nat × Nat) := [(37, 14), (40, 8), (47, 1), (53, 9), (57, 13), (60, 10), (63, 12), (79, 11), (66, 4), (71, 5), (27, 2)]
def gb_lnX10 : List (Nat × Nat) := []
set_option maxRecDepth 100000 in
theorem gb_nX10 : gb_Ln RX10 gb_lkX10 gb_lnX10 := ⟨(List.forall_mem_cons.mpr ⟨(gb_w2 231 rfl rfl), List.forall_mem_cons.mpr ⟨(gb_w2 235 rfl rfl), List.forall_mem_cons.mpr ⟨(gb_w2 239 rfl rfl), List.forall_mem_cons.mpr ⟨(gb_w3 0 rfl rfl), List.forall_mem_cons.mpr ⟨(gb_w3 3 rfl rfl), List.forall_mem_cons.mpr ⟨(gb_w3 7 rfl rfl), List.forall_mem_cons.mpr ⟨(gb_w3 10 rfl rfl), List.forall_mem_cons.mpr ⟨(gb_w3 15 rfl rfl), List.forall_mem_cons.mpr ⟨(gb_w3 31 rfl rfl), List.forall_mem_cons.mpr ⟨(gb_w3 41 rfl rfl), List.forall_mem_cons.mpr ⟨(gb_w5 171 rfl rfl), fun _ h => nomatch h⟩⟩⟩⟩⟩⟩⟩⟩⟩⟩⟩), (fun _ h => nomatch h)⟩
def gb_flX11 : List (Nat × Nat × Nat) := [(287, 7, 0), (290, 7, 1), (293, 7, 2), (270, 7, 3), (296, 7, 4), (298, 7, 5), (128, 7, 6), (360, 7, 7), (332, 7, 8), (335, 7, 9), (350, 7, 10), (309, 7, 11), (312, 7, 12), (318, 7, 13), (321, 7, 14), (324, 7, 15), (218, 3, 1), (242, 3, 2), (236, 3, 3), (338, 3, 5), (280, 0, 5), (210, 0, 6), (411, 1, 3), (95, 10, 1), (119, 8, 1), (405, 5, 3), (10, 11, 0), (24, 11, 1), (36, 11, 2), (43, 11, 3), (52, 11, 4), (61, 11, 5), (68, 11, 6), (77, 11, 7), (84, 11, 8), (91, 11, 9)]
def gb_slX11 : List (Nat × Nat) := [(427, 6), (432, 7), (422, 8), (442, 9), (277, 10), (307, 11), (330, 12), (348, 13), (357, 14), (366, 15), (437, 16), (378, 17), (444, 18), (414, 19), (101, 20), (112, 21), (446, 22), (353, 23)]
def gb_nlX11 : List (Nat × Int32) := []
def gb_llX11 : List (Nat × Int32) := []
def gb_tlX11 : List (Nat × Nat × Nat) := [(99, 103, 1), (110, 114, 2), (275, 279, 4), (355, 359, 3)]
theorem gb_twX11_0 : gb_tw RX11 99 103 1 := gb_zip_at (is := [1124, 58, 55, 724, 733, 738, 741, 743, 725, 726, 69, 70, 727, 732, 739, 759, 714, 760, 716, 761, 718, 728, 730, 720, 755, 756, 758, 720, 1135, 1136, 1137, 749, 706, 749, 750, 751, 752, 708, 752, 753, 754, 755, 710, 1134, 1125, 1126, 1127, 736, 1128, 1129, 1130, 1131, 757, 722, 1132]) (by decide +kernel)
theorem gb_twX11_1 : gb_tw RX11 110 114 2 := gb_zip_at (is := [1019, 59, 55, 724, 733, 738, 741, 743, 725, 726, 69, 70, 727, 732, 739, 759, 714, 760, 716, 761, 718, 728, 730, 720, 755, 756, 758, 720, 1030, 1031, 1032, 749, 706, 749, 750, 751, 752, 708, 752, 753, 754, 755, 710, 1029, 1020, 1021, 1022, 735, 1023, 1024, 1025, 1026, 757, 722, 1027]) (by decide +kernel)
theorem gb_twX11_2 : gb_tw RX11 275 279 4 := gb_zip_at (is := [977, 62, 55, 724, 733, 738, 741, 743, 725, 726, 69, 70, 727, 732, 739, 759, 714, 760, 716, 761, 718, 728, 730, 720, 755, 756, 758, 720, 988, 989, 990, 749, 706, 749, 750, 751, 752, 708, 752, 753, 754, 755, 710, 987, 978, 979, 980, 737, 981, 982, 983, 984, 757, 722, 985]) (by decide +kernel)
theorem gb_twX11_3 : gb_tw RX11 355 359 3 := gb_zip_at (is := [702, 61, 55, 724, 733, 738, 741, 743, 725, 726, 69, 70, 727, 732, 739, 759, 714, 760, 716, 761, 718, 728, 730, 720, 755, 756, 758, 720, 746, 747, 748, 749, 706, 749, 750, 751, 752, 708, 752, 753, 754, 755, 710, 745, 703, 704, 711, 712, 713, 715, 717, 719, 757, 722, 721]) (by decide +kernel)
theorem gb_oX11 : gb_Own RX11 gb_flX11 gb_slX11 gb_nlX11 gb_llX11 gb_tlX11 := ⟨(List.forall_mem_cons.mpr ⟨(gb_fo_of gb_kl7 rfl (by decide) (gb_w1 53 rfl rfl)), List.forall_mem_cons.mpr ⟨(gb_fo_of gb_kl7 rfl (by decide) (gb_w1 58 rfl rfl)), List.forall_mem_cons.mpr ⟨(gb_fo_of gb_kl7 rfl (by decide) (gb_w1 61 rfl rfl)), List.forall_mem_cons.mpr ⟨(gb_fo_of gb_kl7 rfl (by decide) (gb_w1 65 rfl rfl)), List.forall_mem_cons.mpr ⟨(gb_fo_of gb_kl7 rfl (by decide) (gb_w1 68 rfl rfl)), List.forall_mem_cons.mpr ⟨(gb_fo_of gb_kl7 rfl (by decide) (gb_w1 71 rfl rfl)), List.forall_mem_cons.mpr ⟨(gb_fo_of gb_kl7 rfl (by decide) (gb_w1 76 rfl rfl)), List.forall_mem_cons.mpr ⟨(gb_fo_of gb_kl7 rfl (by decide) (gb_w1 80 rfl rfl)), List.forall_mem_cons.mpr ⟨(gb_fo_of gb_kl7 rfl (by decide) (gb_w1 84 rfl rfl)), List.forall_mem_cons.mpr ⟨(gb_fo_of gb_kl7 rfl (by decide) (gb_w1 86 rfl rfl)), List.forall_mem_cons.mpr ⟨(gb_fo_of gb_kl7 rfl (by decide) (gb_w1 90 rfl rfl)), List.forall_mem_cons.mpr ⟨(gb_fo_of gb_kl7 rfl (by decide) (gb_w1 95 rfl rfl)), List.forall_mem_cons.mpr ⟨(gb_fo_of gb_kl7 rfl (by decide) (gb_w1 100 rfl rfl)), List.forall_mem_cons.mpr ⟨(gb_fo_of gb_kl7 rfl (by decide) (gb_w1 103 rfl rfl)), List.forall_mem_cons.mpr ⟨(gb_fo_of gb_kl7 rfl (by decide) (gb_w1 107 rfl rfl)), List.forall_mem_cons.mpr ⟨(gb_fo_of gb_kl7 rfl (by decide) (gb_w1 111 rfl rfl)), List.forall_mem_cons.mpr ⟨(gb_fo_of gb_kl3 rfl (by decide) (gb_w1 187 rfl rfl)), List.forall_mem_cons.mpr ⟨(gb_fo_of gb_kl3 rfl (by decide) (gb_w1 194 rfl rfl)), List.forall_mem_cons.mpr ⟨(gb_fo_of gb_kl3 rfl (by decide) (gb_w1 199 rfl rfl)), List.forall_mem_cons.mpr ⟨(gb_fo_of gb_kl3 rfl (by decide) (gb_w1 205 rfl rfl)), List.forall_mem_cons.mpr ⟨(gb_fo_of gb_kl0 rfl (by decide) (gb_w2 35 rfl rfl)), List.forall_mem_cons.mpr ⟨(gb_fo_of gb_kl0 rfl (by decide) (gb_w2 37 rfl rfl)), List.forall_mem_cons.mpr ⟨(gb_fo_of gb_kl1 rfl (by decide) (gb_w2 84 rfl rfl)), List.forall_mem_cons.mpr ⟨(gb_fo_of gb_kl10 rfl (by decide) (gb_w2 103 rfl rfl)), List.forall_mem_cons.mpr ⟨(gb_fo_of gb_kl8 rfl (by decide) (gb_w2 141 rfl rfl)), List.forall_mem_cons.mpr ⟨(gb_fo_of gb_kl5 rfl (by decide) (gb_w2 177 rfl rfl)), List.forall_mem_cons.mpr ⟨(gb_fo_of gb_kl11 rfl (by decide) (gb_w2 187 rfl rfl)), List.forall_mem_cons.mpr ⟨(gb_fo_of gb_kl11 rfl (by decide) (gb_w2 188 rfl rfl)), List.forall_mem_cons.mpr ⟨(gb_fo_of gb_kl11 rfl (by decide) (gb_w2 189 rfl rfl)), List.forall_mem_cons.mpr ⟨(gb_fo_of gb_kl11 rfl (by decide) (gb_w2 190 rfl rfl)), List.forall_mem_cons.mpr ⟨(gb_fo_of gb_kl11 rfl (by decide) (gb_w2 191 rfl rfl)), List.forall_mem_cons.mpr ⟨(gb_fo_of gb_kl11 rfl (by decide) (gb_w2 192 rfl rfl)), List.forall_mem_cons.mpr ⟨(gb_fo_of gb_kl11 rfl (by decide) (gb_w2 193 rfl rfl)), List.forall_mem_cons.mpr ⟨(gb_fo_of gb_kl11 rfl (by decide) (gb_w2 194 rfl rfl)), List.forall_mem_cons.mpr ⟨(gb_fo_of gb_kl11 rfl (by decide) (gb_w2 195 rfl rfl)), List.forall_mem_cons.mpr ⟨(gb_fo_of gb_kl11 rfl (by decide) (gb_w2 196 rfl rfl)), fun _ h => nomatch h⟩⟩⟩⟩⟩⟩⟩⟩⟩⟩⟩⟩⟩⟩⟩⟩⟩⟩⟩⟩⟩⟩⟩⟩⟩⟩⟩⟩⟩⟩⟩⟩⟩⟩⟩⟩), (List.forall_mem_cons.mpr ⟨⟨_, List.mem_of_getElem? (i := 6) rfl⟩, List.forall_mem_cons.mpr ⟨⟨_, List.mem_of_getElem? (i := 7) rfl⟩, List.forall_mem_cons.mpr ⟨⟨_, List.mem_of_getElem? (i := 8) rfl⟩, List.forall_mem_cons.mpr ⟨⟨_, List.mem_of_getElem? (i := 9) rfl⟩, List.forall_mem_cons.mpr ⟨⟨_, List.mem_of_getElem? (i := 10) rfl⟩, List.forall_mem_cons.mpr ⟨⟨_, List.mem_of_getElem? (i := 11) rfl⟩, List.forall_mem_cons.mpr ⟨⟨_, List.mem_of_getElem? (i := 12) rfl⟩, List.forall_mem_cons.mpr ⟨⟨_, List.mem_of_getElem? (i := 13) rfl⟩, List.forall_mem_cons.mpr ⟨⟨_, List.mem_of_getElem? (i := 14) rfl⟩, List.forall_mem_cons.mpr ⟨⟨_, List.mem_of_getElem? (i := 15) rfl⟩, List.forall_mem_cons.mpr ⟨⟨_, List.mem_of_getElem? (i := 16) rfl⟩, List.forall_mem_cons.mpr ⟨⟨_, List.mem_of_getElem? (i := 17) rfl⟩, List.forall_mem_cons.mpr ⟨⟨_, List.mem_of_getElem? (i := 18) rfl⟩, List.forall_mem_cons.mpr ⟨⟨_, List.mem_of_getElem? (i := 19) rfl⟩, List.forall_mem_cons.mpr ⟨⟨_, List.mem_of_getElem? (i := 20) rfl⟩, List.forall_mem_cons.mpr ⟨⟨_, List.mem_of_getElem? (i := 21) rfl⟩, List.forall_mem_cons.mpr ⟨⟨_, List.mem_of_getElem? (i := 22) rfl⟩, List.forall_mem_cons.mpr ⟨⟨_, List.mem_of_getElem? (i := 23) rfl⟩, fun _ h => nomatch h⟩⟩⟩⟩⟩⟩⟩⟩⟩⟩⟩⟩⟩⟩⟩⟩⟩⟩), (fun _ h => nomatch h), (fun _ h => nomatch h), (List.forall_mem_cons.mpr ⟨gb_twX11_0, List.forall_mem_cons.mpr ⟨gb_twX11_1, List.forall_mem_cons.mpr ⟨gb_twX11_2, List.forall_mem_cons.mpr ⟨gb_twX11_3, fun _ h => nomatch h⟩⟩⟩⟩)⟩
def gb_lkX11 : List (Nat × Nat) := [(16, 112), (28, 47), (115, 41), (122, 42), (125, 48), (176, 402), (424, 36), (179, 403), (429, 50), (131, 52), (182, 54), (167, 55), (211, 81), (248, 95), (251, 46), (186, 405), (419, 56), (254, 61), (258, 67), (261, 85), (233, 413), (439, 90), (267, 91), (272, 79), (222, 1), (285, 33), (264, 88), (301, 99), (304, 98), (315, 65), (327, 94), (341, 100), (196, 60), (203, 70), (344, 97), (363, 72), (227, 411), (434, 87), (375, 45), (371, 58), (387, 101), (368, 429), (402, 108), (416, 110), (106, 6), (189, 63), (192, 406), (200, 69), (206, 80), (215, 86), (230, 89), (239, 92), (245, 93), (399, 104), (391, 11), (396, 102)]
def gb_lnX11 : List (Nat × Nat) := []
set_option maxRecDepth 100000 in
theorem gb_nX11 : gb_Ln RX11 gb_lkX11 gb_lnX11 := ⟨(List.forall_mem_cons.mpr ⟨(gb_w1 145 rfl rfl), List.forall_mem_cons.mpr ⟨(gb_w1 219 rfl rfl), List.forall_mem_cons.mpr ⟨(gb_w2 222 rfl rfl), List.forall_mem_cons.mpr ⟨(gb_w3 161 rfl rfl), List.forall_mem_cons.mpr ⟨(gb_w3 170 rfl rfl), List.forall_mem_cons.mpr ⟨(gb_w3 179 rfl rfl), List.forall_mem_cons.mpr ⟨(gb_w3 183 rfl rfl), List.forall_mem_cons.mpr ⟨(gb_w4 12 rfl rfl), List.forall_mem_cons.mpr ⟨(gb_w4 16 rfl rfl), List.forall_mem_cons.mpr ⟨(gb_w4 21 rfl rfl), List.forall_mem_cons.mpr ⟨(gb_w4 31 rfl rfl), List.forall_mem_cons.mpr ⟨(gb_w4 42 rfl rfl), List.forall_mem_cons.mpr ⟨(gb_w4 50 rfl rfl), List.forall_mem_cons.mpr ⟨(gb_w4 123 rfl rfl), List.forall_mem_cons.mpr ⟨(gb_w4 135 rfl rfl), List.forall_mem_cons.mpr ⟨(gb_w4 140 rfl rfl), List.forall_mem_cons.mpr ⟨(gb_w4 144 rfl rfl), List.forall_mem_cons.mpr ⟨(gb_w4 149 rfl rfl), List.forall_mem_cons.mpr ⟨(gb_w4 167 rfl rfl), List.forall_mem_cons.mpr ⟨(gb_w4 181 rfl rfl), List.forall_mem_cons.mpr ⟨(gb_w4 197 rfl rfl), List.forall_mem_cons.mpr ⟨(gb_w4 201 rfl rfl), List.forall_mem_cons.mpr ⟨(gb_w4 206 rfl rfl), List.forall_mem_cons.mpr ⟨(gb_w4 214 rfl rfl), List.forall_mem_cons.mpr ⟨(gb_w4 235 rfl rfl), List.forall_mem_cons.mpr ⟨(gb_w5 0 rfl rfl), List.forall_mem_cons.mpr ⟨(gb_w5 1 rfl rfl), List.forall_mem_cons.mpr ⟨(gb_w5 9 rfl rfl), List.forall_mem_cons.mpr ⟨(gb_w5 17 rfl rfl), List.forall_mem_cons.mpr ⟨(gb_w5 41 rfl rfl), List.forall_mem_cons.mpr ⟨(gb_w5 42 rfl rfl), List.forall_mem_cons.mpr ⟨(gb_w5 48 rfl rfl), List.forall_mem_cons.mpr ⟨(gb_w5 52 rfl rfl), List.forall_mem_cons.mpr ⟨(gb_w5 53 rfl rfl), List.forall_mem_cons.mpr ⟨(gb_w5 57 rfl rfl), List.forall_mem_cons.mpr ⟨(gb_w5 64 rfl rfl), List.forall_mem_cons.mpr ⟨(gb_w5 70 rfl rfl), List.forall_mem_cons.mpr ⟨(gb_w5 74 rfl rfl), List.forall_mem_cons.mpr ⟨(gb_w5 80 rfl rfl), List.forall_mem_cons.mpr ⟨(gb_w5 81 rfl rfl), List.forall_mem_cons.mpr ⟨(gb_w5 91 rfl rfl), List.forall_mem_cons.mpr ⟨(gb_w5 100 rfl rfl), List.forall_mem_cons.mpr ⟨(gb_w5 105 rfl rfl), List.forall_mem_cons.mpr ⟨(gb_w5 142 rfl rfl), List.forall_mem_cons.mpr ⟨(gb_w5 167 rfl rfl), List.forall_mem_cons.mpr ⟨(gb_w5 185 rfl rfl), List.forall_mem_cons.mpr ⟨(gb_w5 190 rfl rfl), List.forall_mem_cons.mpr ⟨(gb_w5 202 rfl rfl), List.forall_mem_cons.mpr ⟨(gb_w5 218 rfl rfl), List.forall_mem_cons.mpr ⟨(gb_w5 226 rfl rfl), List.forall_mem_cons.mpr ⟨(gb_w5 238 rfl rfl), List.forall_mem_cons.mpr ⟨(gb_w6 10 rfl rfl), List.forall_mem_cons.mpr ⟨(gb_w6 22 rfl rfl), List.forall_mem_cons.mpr ⟨(gb_w6 55 rfl rfl), List.forall_mem_cons.mpr ⟨(gb_w6 66 rfl rfl), List.forall_mem_cons.mpr ⟨(gb_w6 67 rfl rfl), fun _ h => nomatch h⟩⟩⟩⟩⟩⟩⟩⟩⟩⟩⟩⟩⟩⟩⟩⟩⟩⟩⟩⟩⟩⟩⟩⟩⟩⟩⟩⟩⟩⟩⟩⟩⟩⟩⟩⟩⟩⟩⟩⟩⟩⟩⟩⟩⟩⟩⟩⟩⟩⟩⟩⟩⟩⟩⟩⟩), (fun _ h => nomatch h)⟩
end GB8
end
