noncomputable section
def cw_L_appendText {α : Type} (as : List Value) (S : ga_S) (s : ga_M) (K : ga_O → Option α) : Option α := match as with
  | [.ref r0, .int a, .int b, .int c, .int d, .int e, .ref r1] => bif Nat.beq r0 0 && Nat.beq r1 82 then (f_L_appendText_0_82 a b c d e s).bind fun q => Sum.elim (fun x => K (.inl (some (.int x)), S, q.2)) (fun _ => none) q.1 else none
  | _ => none
def cw_L_truncateText {α : Type} (as : List Value) (S : ga_S) (s : ga_M) (K : ga_O → Option α) : Option α := match as with
  | [.ref r0, .int a, .ref r1] => bif Nat.beq r0 0 && Nat.beq r1 82 then (f_L_truncateText_0_82 a s).bind fun q => Sum.elim (fun x => K (.inl (some (.int x)), S, q.2)) (fun _ => none) q.1 else none
  | _ => none
def cw_L_setAbsent {α : Type} (as : List Value) (S : ga_S) (s : ga_M) (K : ga_O → Option α) : Option α := match as with
  | [.ref r0, .int a, .int b, .int c, .ref r1] => bif Nat.beq r0 0 && Nat.beq r1 82 then (f_L_setAbsent_0_82 a b c s).bind fun q => Sum.elim (fun x => K (.inl (some (.int x)), S, q.2)) (fun _ => none) q.1 else none
  | _ => none
def cw_L_cover {α : Type} (as : List Value) (S : ga_S) (s : ga_M) (K : ga_O → Option α) : Option α := match as with
  | [.ref r0, .int a, .int b, .ref r1] => bif Nat.beq r0 0 && Nat.beq r1 82 then (f_L_cover_0_82 a b s).bind fun q => Sum.elim (fun x => K (.inl (some (.int x)), S, q.2)) (fun _ => none) q.1 else none
  | _ => none
def cw_L_supervise {α : Type} (as : List Value) (S : ga_S) (s : ga_M) (K : ga_O → Option α) : Option α := match as with
  | [.ref r0, .int a, .int b, .ref r1] => bif Nat.beq r0 0 && Nat.beq r1 82 then (f_L_supervise_0_82 a b s).bind fun q => Sum.elim (fun x => K (.inl (some (.int x)), S, q.2)) (fun _ => none) q.1 else none
  | _ => none
def cw_L_repair {α : Type} (as : List Value) (S : ga_S) (s : ga_M) (K : ga_O → Option α) : Option α := match as with
  | [.ref r0, .int a, .ref r1] => bif Nat.beq r0 0 && Nat.beq r1 82 then (f_L_repair_0_82 a s).bind fun q => Sum.elim (fun x => K (.inl (some (.int x)), S, q.2)) (fun _ => none) q.1 else none
  | _ => none
def cw_L_exchange {α : Type} (as : List Value) (S : ga_S) (s : ga_M) (K : ga_O → Option α) : Option α := match as with
  | [.ref r0, .int a, .int b, .ref r1] => bif Nat.beq r0 0 && Nat.beq r1 82 then (f_L_exchange_0_82 a b s).bind fun q => Sum.elim (fun x => K (.inl (some (.int x)), S, q.2)) (fun _ => none) q.1 else none
  | _ => none
def cw_L_move {α : Type} (as : List Value) (S : ga_S) (s : ga_M) (K : ga_O → Option α) : Option α := match as with
  | [.ref r0, .int a, .int b, .ref r1] => bif Nat.beq r0 0 && Nat.beq r1 82 then (f_L_move_0_82 a b s).bind fun q => Sum.elim (fun x => K (.inl (some (.int x)), S, q.2)) (fun _ => none) q.1 else none
  | _ => none
def cw_L_setRoom {α : Type} (as : List Value) (S : ga_S) (s : ga_M) (K : ga_O → Option α) : Option α := match as with
  | [.ref r0, .int a, .int b, .ref r1] => bif Nat.beq r0 0 && Nat.beq r1 82 then (f_L_setRoom_0_82 a b s).bind fun q => Sum.elim (fun x => K (.inl (some (.int x)), S, q.2)) (fun _ => none) q.1 else none
  | _ => none
def cw_L_reopen {α : Type} (as : List Value) (S : ga_S) (s : ga_M) (K : ga_O → Option α) : Option α := match as with
  | [.ref r0, .int a, .ref r1] => bif Nat.beq r0 0 && Nat.beq r1 82 then (f_L_reopen_0_82 a s).bind fun q => Sum.elim (fun x => K (.inl (some (.int x)), S, q.2)) (fun _ => none) q.1 else none
  | _ => none
def cw_L_whyNotCover {α : Type} (as : List Value) (S : ga_S) (s : ga_M) (K : ga_O → Option α) : Option α := match as with
  | [.ref r0, .int a, .int b, .ref r1] => bif Nat.beq r0 0 && Nat.beq r1 82 then (f_L_whyNotCover_0_82 a b s).bind fun q => Sum.elim (fun x => K (.inl (some (.int x)), S, q.2)) (fun _ => none) q.1 else none
  | _ => none
def cw_L_whyNotSupervise {α : Type} (as : List Value) (S : ga_S) (s : ga_M) (K : ga_O → Option α) : Option α := match as with
  | [.ref r0, .int a, .int b, .ref r1] => bif Nat.beq r0 0 && Nat.beq r1 82 then (f_L_whyNotSupervise_0_82 a b s).bind fun q => Sum.elim (fun x => K (.inl (some (.int x)), S, q.2)) (fun _ => none) q.1 else none
  | _ => none
def cw_L_whyNotExchange {α : Type} (as : List Value) (S : ga_S) (s : ga_M) (K : ga_O → Option α) : Option α := match as with
  | [.ref r0, .int a, .int b, .ref r1] => bif Nat.beq r0 0 && Nat.beq r1 82 then (f_L_whyNotExchange_0_82 a b s).bind fun q => Sum.elim (fun x => K (.inl (some (.int x)), S, q.2)) (fun _ => none) q.1 else none
  | _ => none
def cw_L_whyNotMove {α : Type} (as : List Value) (S : ga_S) (s : ga_M) (K : ga_O → Option α) : Option α := match as with
  | [.ref r0, .int a, .int b, .ref r1] => bif Nat.beq r0 0 && Nat.beq r1 82 then (f_L_whyNotMove_0_82 a b s).bind fun q => Sum.elim (fun x => K (.inl (some (.int x)), S, q.2)) (fun _ => none) q.1 else none
  | _ => none
def cw_L_whyNotRoom {α : Type} (as : List Value) (S : ga_S) (s : ga_M) (K : ga_O → Option α) : Option α := match as with
  | [.ref r0, .int a, .int b, .ref r1] => bif Nat.beq r0 0 && Nat.beq r1 82 then (f_L_whyNotRoom_0_82 a b s).bind fun q => Sum.elim (fun x => K (.inl (some (.int x)), S, q.2)) (fun _ => none) q.1 else none
  | _ => none
def cw_L_candidates {α : Type} (as : List Value) (S : ga_S) (s : ga_M) (K : ga_O → Option α) : Option α := match as with
  | [.ref r0, .int a, .ref r1] => bif Nat.beq r0 0 && Nat.beq r1 82 then (f_L_candidates_0_82 a s).bind fun q => Sum.elim (fun x => K (.inl (some (.int x)), S, q.2)) (fun _ => none) q.1 else none
  | _ => none
def cw_L_chain {α : Type} (as : List Value) (S : ga_S) (s : ga_M) (K : ga_O → Option α) : Option α := match as with
  | [.ref r0, .int a, .ref r1] => bif Nat.beq r0 0 && Nat.beq r1 82 then (f_L_chain_0_82 a s).bind fun q => Sum.elim (fun x => K (.inl (some (.int x)), S, q.2)) (fun _ => none) q.1 else none
  | _ => none
def cw_L_chainTeacher {α : Type} (as : List Value) (S : ga_S) (s : ga_M) (K : ga_O → Option α) : Option α := match as with
  | [.ref r0, .int a, .int b, .ref r1] => bif Nat.beq r0 0 && Nat.beq r1 82 then (f_L_chainTeacher_0_82 a b s).bind fun q => Sum.elim (fun x => K (.inl (some (.int x)), S, q.2)) (fun _ => none) q.1 else none
  | _ => none
def cw_L_partners {α : Type} (as : List Value) (S : ga_S) (s : ga_M) (K : ga_O → Option α) : Option α := match as with
  | [.ref r0, .int a, .ref r1] => bif Nat.beq r0 0 && Nat.beq r1 82 then (f_L_partners_0_82 a s).bind fun q => Sum.elim (fun x => K (.inl (some (.int x)), S, q.2)) (fun _ => none) q.1 else none
  | _ => none
def cw_L_firstPartner {α : Type} (as : List Value) (S : ga_S) (s : ga_M) (K : ga_O → Option α) : Option α := match as with
  | [.ref r0, .int a, .ref r1] => bif Nat.beq r0 0 && Nat.beq r1 82 then (f_L_firstPartner_0_82 a s).bind fun q => Sum.elim (fun x => K (.inl (some (.int x)), S, q.2)) (fun _ => none) q.1 else none
  | _ => none
def cw_L_slotsFor {α : Type} (as : List Value) (S : ga_S) (s : ga_M) (K : ga_O → Option α) : Option α := match as with
  | [.ref r0, .int a, .ref r1] => bif Nat.beq r0 0 && Nat.beq r1 82 then (f_L_slotsFor_0_82 a s).bind fun q => Sum.elim (fun x => K (.inl (some (.int x)), S, q.2)) (fun _ => none) q.1 else none
  | _ => none
def cw_L_count {α : Type} (as : List Value) (S : ga_S) (s : ga_M) (K : ga_O → Option α) : Option α := match as with
  | [.ref r0, .int a, .ref r1] => bif Nat.beq r0 0 && Nat.beq r1 82 then (f_L_count_0_82 a s).bind fun q => Sum.elim (fun x => K (.inl (some (.int x)), S, q.2)) (fun _ => none) q.1 else none
  | _ => none
def cw_L_lesson {α : Type} (as : List Value) (S : ga_S) (s : ga_M) (K : ga_O → Option α) : Option α := match as with
  | [.ref r0, .int a, .int b, .ref r1] => bif Nat.beq r0 0 && Nat.beq r1 82 then (f_L_lesson_0_82 a b s).bind fun q => Sum.elim (fun x => K (.inl (some (.int x)), S, q.2)) (fun _ => none) q.1 else none
  | _ => none
def cw_L_teacher {α : Type} (as : List Value) (S : ga_S) (s : ga_M) (K : ga_O → Option α) : Option α := match as with
  | [.ref r0, .int a, .int b, .ref r1] => bif Nat.beq r0 0 && Nat.beq r1 82 then (f_L_teacher_0_82 a b s).bind fun q => Sum.elim (fun x => K (.inl (some (.int x)), S, q.2)) (fun _ => none) q.1 else none
  | _ => none
def cw_L_room {α : Type} (as : List Value) (S : ga_S) (s : ga_M) (K : ga_O → Option α) : Option α := match as with
  | [.ref r0, .int a, .int b, .ref r1] => bif Nat.beq r0 0 && Nat.beq r1 82 then (f_L_room_0_82 a b s).bind fun q => Sum.elim (fun x => K (.inl (some (.int x)), S, q.2)) (fun _ => none) q.1 else none
  | _ => none
def cw_L_subject {α : Type} (as : List Value) (S : ga_S) (s : ga_M) (K : ga_O → Option α) : Option α := match as with
  | [.ref r0, .int a, .int b, .ref r1] => bif Nat.beq r0 0 && Nat.beq r1 82 then (f_L_subject_0_82 a b s).bind fun q => Sum.elim (fun x => K (.inl (some (.int x)), S, q.2)) (fun _ => none) q.1 else none
  | _ => none
def cw_L_lessonOfClass {α : Type} (as : List Value) (S : ga_S) (s : ga_M) (K : ga_O → Option α) : Option α := match as with
  | [.ref r0, .int a, .int b, .ref r1] => bif Nat.beq r0 0 && Nat.beq r1 82 then (f_L_lessonOfClass_0_82 a b s).bind fun q => Sum.elim (fun x => K (.inl (some (.int x)), S, q.2)) (fun _ => none) q.1 else none
  | _ => none
def cw_L_lessonOfTeacher {α : Type} (as : List Value) (S : ga_S) (s : ga_M) (K : ga_O → Option α) : Option α := match as with
  | [.ref r0, .int a, .int b, .ref r1] => bif Nat.beq r0 0 && Nat.beq r1 82 then (f_L_lessonOfTeacher_0_82 a b s).bind fun q => Sum.elim (fun x => K (.inl (some (.int x)), S, q.2)) (fun _ => none) q.1 else none
  | _ => none
def cw_L_lessonInRoom {α : Type} (as : List Value) (S : ga_S) (s : ga_M) (K : ga_O → Option α) : Option α := match as with
  | [.ref r0, .int a, .int b, .ref r1] => bif Nat.beq r0 0 && Nat.beq r1 82 then (f_L_lessonInRoom_0_82 a b s).bind fun q => Sum.elim (fun x => K (.inl (some (.int x)), S, q.2)) (fun _ => none) q.1 else none
  | _ => none
def cw_L_freeTeachers {α : Type} (as : List Value) (S : ga_S) (s : ga_M) (K : ga_O → Option α) : Option α := match as with
  | [.ref r0, .int a, .ref r1] => bif Nat.beq r0 0 && Nat.beq r1 82 then (f_L_freeTeachers_0_82 a s).bind fun q => Sum.elim (fun x => K (.inl (some (.int x)), S, q.2)) (fun _ => none) q.1 else none
  | _ => none
def cw_L_freeRooms {α : Type} (as : List Value) (S : ga_S) (s : ga_M) (K : ga_O → Option α) : Option α := match as with
  | [.ref r0, .int a, .int b, .ref r1] => bif Nat.beq r0 0 && Nat.beq r1 82 then (f_L_freeRooms_0_82 a b s).bind fun q => Sum.elim (fun x => K (.inl (some (.int x)), S, q.2)) (fun _ => none) q.1 else none
  | _ => none
def cw_L_openLesson {α : Type} (as : List Value) (S : ga_S) (s : ga_M) (K : ga_O → Option α) : Option α := match as with
  | [.ref r0, .int a, .ref r1] => bif Nat.beq r0 0 && Nat.beq r1 82 then (f_L_openLesson_0_82 a s).bind fun q => Sum.elim (fun x => K (.inl (some (.int x)), S, q.2)) (fun _ => none) q.1 else none
  | _ => none
def cw_L_difference {α : Type} (as : List Value) (S : ga_S) (s : ga_M) (K : ga_O → Option α) : Option α := match as with
  | [.ref r0, .int a, .ref r1] => bif Nat.beq r0 0 && Nat.beq r1 82 then (f_L_difference_0_82 a s).bind fun q => Sum.elim (fun x => K (.inl (some (.int x)), S, q.2)) (fun _ => none) q.1 else none
  | _ => none
def cw_L_windows {α : Type} (as : List Value) (S : ga_S) (s : ga_M) (K : ga_O → Option α) : Option α := match as with
  | [.ref r0, .int a, .int b, .ref r1] => bif Nat.beq r0 0 && Nat.beq r1 82 then (f_L_windows_0_82 a b s).bind fun q => Sum.elim (fun x => K (.inl (some (.int x)), S, q.2)) (fun _ => none) q.1 else none
  | _ => none
def cw_L_classWindows {α : Type} (as : List Value) (S : ga_S) (s : ga_M) (K : ga_O → Option α) : Option α := match as with
  | [.ref r0, .int a, .int b, .ref r1] => bif Nat.beq r0 0 && Nat.beq r1 82 then (f_L_classWindows_0_82 a b s).bind fun q => Sum.elim (fun x => K (.inl (some (.int x)), S, q.2)) (fun _ => none) q.1 else none
  | _ => none
def cw_L_writeReport {α : Type} (as : List Value) (S : ga_S) (s : ga_M) (K : ga_O → Option α) : Option α := match as with
  | [.ref r0, .int a, .ref r1] => bif Nat.beq r0 0 && Nat.beq r1 82 then (f_L_writeReport_0_82 a s).bind fun q => Sum.elim (fun x => K (.inl (some (.int x)), S, q.2)) (fun _ => none) q.1 else none
  | _ => none
def cw_L_reportByte {α : Type} (as : List Value) (S : ga_S) (s : ga_M) (K : ga_O → Option α) : Option α := match as with
  | [.ref r0, .int a, .ref r1] => bif Nat.beq r0 0 && Nat.beq r1 82 then (f_L_reportByte_0_82 a s).bind fun q => Sum.elim (fun x => K (.inl (some (.int x)), S, q.2)) (fun _ => none) q.1 else none
  | _ => none
def cw_L_undo {α : Type} (as : List Value) (S : ga_S) (s : ga_M) (K : ga_O → Option α) : Option α := match as with
  | [.ref r0, .ref r1] => bif Nat.beq r0 0 && Nat.beq r1 82 then (f_L_undo_0_82 s).bind fun q => Sum.elim (fun x => K (.inl (some (.int x)), S, q.2)) (fun _ => none) q.1 else none
  | _ => none
def gaLawL : ga_G := fun α mid as S s K => bif Nat.blt mid 464 then (bif Nat.blt mid 454 then (bif Nat.blt mid 449 then (bif Nat.blt mid 447 then (bif Nat.blt mid 446 then (bif Nat.beq mid 445 then cw_L_appendText as S s K else none) else (bif Nat.beq mid 446 then cw_L_truncateText as S s K else none)) else (bif Nat.blt mid 448 then (bif Nat.beq mid 447 then cw_L_setAbsent as S s K else none) else (bif Nat.beq mid 448 then cw_L_cover as S s K else none))) else (bif Nat.blt mid 451 then (bif Nat.blt mid 450 then (bif Nat.beq mid 449 then cw_L_supervise as S s K else none) else (bif Nat.beq mid 450 then cw_L_repair as S s K else none)) else (bif Nat.blt mid 452 then (bif Nat.beq mid 451 then cw_L_exchange as S s K else none) else (bif Nat.blt mid 453 then (bif Nat.beq mid 452 then cw_L_move as S s K else none) else (bif Nat.beq mid 453 then cw_L_setRoom as S s K else none))))) else (bif Nat.blt mid 459 then (bif Nat.blt mid 456 then (bif Nat.blt mid 455 then (bif Nat.beq mid 454 then cw_L_reopen as S s K else none) else (bif Nat.beq mid 455 then cw_L_whyNotCover as S s K else none)) else (bif Nat.blt mid 457 then (bif Nat.beq mid 456 then cw_L_whyNotSupervise as S s K else none) else (bif Nat.blt mid 458 then (bif Nat.beq mid 457 then cw_L_whyNotExchange as S s K else none) else (bif Nat.beq mid 458 then cw_L_whyNotMove as S s K else none)))) else (bif Nat.blt mid 461 then (bif Nat.blt mid 460 then (bif Nat.beq mid 459 then cw_L_whyNotRoom as S s K else none) else (bif Nat.beq mid 460 then cw_L_candidates as S s K else none)) else (bif Nat.blt mid 462 then (bif Nat.beq mid 461 then cw_L_chain as S s K else none) else (bif Nat.blt mid 463 then (bif Nat.beq mid 462 then cw_L_chainTeacher as S s K else none) else (bif Nat.beq mid 463 then cw_L_partners as S s K else none)))))) else (bif Nat.blt mid 473 then (bif Nat.blt mid 468 then (bif Nat.blt mid 466 then (bif Nat.blt mid 465 then (bif Nat.beq mid 464 then cw_L_firstPartner as S s K else none) else (bif Nat.beq mid 465 then cw_L_slotsFor as S s K else none)) else (bif Nat.blt mid 467 then (bif Nat.beq mid 466 then cw_L_count as S s K else none) else (bif Nat.beq mid 467 then cw_L_lesson as S s K else none))) else (bif Nat.blt mid 470 then (bif Nat.blt mid 469 then (bif Nat.beq mid 468 then cw_L_teacher as S s K else none) else (bif Nat.beq mid 469 then cw_L_room as S s K else none)) else (bif Nat.blt mid 471 then (bif Nat.beq mid 470 then cw_L_subject as S s K else none) else (bif Nat.blt mid 472 then (bif Nat.beq mid 471 then cw_L_lessonOfClass as S s K else none) else (bif Nat.beq mid 472 then cw_L_lessonOfTeacher as S s K else none))))) else (bif Nat.blt mid 478 then (bif Nat.blt mid 475 then (bif Nat.blt mid 474 then (bif Nat.beq mid 473 then cw_L_lessonInRoom as S s K else none) else (bif Nat.beq mid 474 then cw_L_freeTeachers as S s K else none)) else (bif Nat.blt mid 476 then (bif Nat.beq mid 475 then cw_L_freeRooms as S s K else none) else (bif Nat.blt mid 477 then (bif Nat.beq mid 476 then cw_L_openLesson as S s K else none) else (bif Nat.beq mid 477 then cw_L_difference as S s K else none)))) else (bif Nat.blt mid 480 then (bif Nat.blt mid 479 then (bif Nat.beq mid 478 then cw_L_windows as S s K else none) else (bif Nat.beq mid 479 then cw_L_classWindows as S s K else none)) else (bif Nat.blt mid 481 then (bif Nat.beq mid 480 then cw_L_writeReport as S s K else none) else (bif Nat.blt mid 482 then (bif Nat.beq mid 481 then cw_L_reportByte as S s K else none) else (bif Nat.beq mid 482 then cw_L_undo as S s K else none))))))
def gaLaw : ga_G := fun α mid as S s K => bif Nat.blt mid 445 then (bif gk_eq S gaSH then gaG α mid as S s K else none) else (bif Nat.blt mid 483 then (bif gk_eq S gaSH then gaLawL α mid as S s K else none) else gaK α mid as S s K)
theorem gw_ge_L_appendText (as : List Value) (S : ga_S) (s : ga_M) : ge_N (fun _ => True) (fun α K => cw_L_appendText as S s K) := by
  unfold cw_L_appendText
  split
  · exact ge_cond (ge_bind (fun q => by obtain ⟨q1 | q1, q2⟩ := q; exact ge_K trivial; exact ge_none)) ge_none
  · exact ge_none
theorem gw_ge_L_truncateText (as : List Value) (S : ga_S) (s : ga_M) : ge_N (fun _ => True) (fun α K => cw_L_truncateText as S s K) := by
  unfold cw_L_truncateText
  split
  · exact ge_cond (ge_bind (fun q => by obtain ⟨q1 | q1, q2⟩ := q; exact ge_K trivial; exact ge_none)) ge_none
  · exact ge_none
theorem gw_ge_L_setAbsent (as : List Value) (S : ga_S) (s : ga_M) : ge_N (fun _ => True) (fun α K => cw_L_setAbsent as S s K) := by
  unfold cw_L_setAbsent
  split
  · exact ge_cond (ge_bind (fun q => by obtain ⟨q1 | q1, q2⟩ := q; exact ge_K trivial; exact ge_none)) ge_none
  · exact ge_none
theorem gw_ge_L_cover (as : List Value) (S : ga_S) (s : ga_M) : ge_N (fun _ => True) (fun α K => cw_L_cover as S s K) := by
  unfold cw_L_cover
  split
  · exact ge_cond (ge_bind (fun q => by obtain ⟨q1 | q1, q2⟩ := q; exact ge_K trivial; exact ge_none)) ge_none
  · exact ge_none
theorem gw_ge_L_supervise (as : List Value) (S : ga_S) (s : ga_M) : ge_N (fun _ => True) (fun α K => cw_L_supervise as S s K) := by
  unfold cw_L_supervise
  split
  · exact ge_cond (ge_bind (fun q => by obtain ⟨q1 | q1, q2⟩ := q; exact ge_K trivial; exact ge_none)) ge_none
  · exact ge_none
theorem gw_ge_L_repair (as : List Value) (S : ga_S) (s : ga_M) : ge_N (fun _ => True) (fun α K => cw_L_repair as S s K) := by
  unfold cw_L_repair
  split
  · exact ge_cond (ge_bind (fun q => by obtain ⟨q1 | q1, q2⟩ := q; exact ge_K trivial; exact ge_none)) ge_none
  · exact ge_none
theorem gw_ge_L_exchange (as : List Value) (S : ga_S) (s : ga_M) : ge_N (fun _ => True) (fun α K => cw_L_exchange as S s K) := by
  unfold cw_L_exchange
  split
  · exact ge_cond (ge_bind (fun q => by obtain ⟨q1 | q1, q2⟩ := q; exact ge_K trivial; exact ge_none)) ge_none
  · exact ge_none
theorem gw_ge_L_move (as : List Value) (S : ga_S) (s : ga_M) : ge_N (fun _ => True) (fun α K => cw_L_move as S s K) := by
  unfold cw_L_move
  split
  · exact ge_cond (ge_bind (fun q => by obtain ⟨q1 | q1, q2⟩ := q; exact ge_K trivial; exact ge_none)) ge_none
  · exact ge_none
theorem gw_ge_L_setRoom (as : List Value) (S : ga_S) (s : ga_M) : ge_N (fun _ => True) (fun α K => cw_L_setRoom as S s K) := by
  unfold cw_L_setRoom
  split
  · exact ge_cond (ge_bind (fun q => by obtain ⟨q1 | q1, q2⟩ := q; exact ge_K trivial; exact ge_none)) ge_none
  · exact ge_none
theorem gw_ge_L_reopen (as : List Value) (S : ga_S) (s : ga_M) : ge_N (fun _ => True) (fun α K => cw_L_reopen as S s K) := by
  unfold cw_L_reopen
  split
  · exact ge_cond (ge_bind (fun q => by obtain ⟨q1 | q1, q2⟩ := q; exact ge_K trivial; exact ge_none)) ge_none
  · exact ge_none
theorem gw_ge_L_whyNotCover (as : List Value) (S : ga_S) (s : ga_M) : ge_N (fun _ => True) (fun α K => cw_L_whyNotCover as S s K) := by
  unfold cw_L_whyNotCover
  split
  · exact ge_cond (ge_bind (fun q => by obtain ⟨q1 | q1, q2⟩ := q; exact ge_K trivial; exact ge_none)) ge_none
  · exact ge_none
theorem gw_ge_L_whyNotSupervise (as : List Value) (S : ga_S) (s : ga_M) : ge_N (fun _ => True) (fun α K => cw_L_whyNotSupervise as S s K) := by
  unfold cw_L_whyNotSupervise
  split
  · exact ge_cond (ge_bind (fun q => by obtain ⟨q1 | q1, q2⟩ := q; exact ge_K trivial; exact ge_none)) ge_none
  · exact ge_none
theorem gw_ge_L_whyNotExchange (as : List Value) (S : ga_S) (s : ga_M) : ge_N (fun _ => True) (fun α K => cw_L_whyNotExchange as S s K) := by
  unfold cw_L_whyNotExchange
  split
  · exact ge_cond (ge_bind (fun q => by obtain ⟨q1 | q1, q2⟩ := q; exact ge_K trivial; exact ge_none)) ge_none
  · exact ge_none
theorem gw_ge_L_whyNotMove (as : List Value) (S : ga_S) (s : ga_M) : ge_N (fun _ => True) (fun α K => cw_L_whyNotMove as S s K) := by
  unfold cw_L_whyNotMove
  split
  · exact ge_cond (ge_bind (fun q => by obtain ⟨q1 | q1, q2⟩ := q; exact ge_K trivial; exact ge_none)) ge_none
  · exact ge_none
theorem gw_ge_L_whyNotRoom (as : List Value) (S : ga_S) (s : ga_M) : ge_N (fun _ => True) (fun α K => cw_L_whyNotRoom as S s K) := by
  unfold cw_L_whyNotRoom
  split
  · exact ge_cond (ge_bind (fun q => by obtain ⟨q1 | q1, q2⟩ := q; exact ge_K trivial; exact ge_none)) ge_none
  · exact ge_none
theorem gw_ge_L_candidates (as : List Value) (S : ga_S) (s : ga_M) : ge_N (fun _ => True) (fun α K => cw_L_candidates as S s K) := by
  unfold cw_L_candidates
  split
  · exact ge_cond (ge_bind (fun q => by obtain ⟨q1 | q1, q2⟩ := q; exact ge_K trivial; exact ge_none)) ge_none
  · exact ge_none
theorem gw_ge_L_chain (as : List Value) (S : ga_S) (s : ga_M) : ge_N (fun _ => True) (fun α K => cw_L_chain as S s K) := by
  unfold cw_L_chain
  split
  · exact ge_cond (ge_bind (fun q => by obtain ⟨q1 | q1, q2⟩ := q; exact ge_K trivial; exact ge_none)) ge_none
  · exact ge_none
theorem gw_ge_L_chainTeacher (as : List Value) (S : ga_S) (s : ga_M) : ge_N (fun _ => True) (fun α K => cw_L_chainTeacher as S s K) := by
  unfold cw_L_chainTeacher
  split
  · exact ge_cond (ge_bind (fun q => by obtain ⟨q1 | q1, q2⟩ := q; exact ge_K trivial; exact ge_none)) ge_none
  · exact ge_none
theorem gw_ge_L_partners (as : List Value) (S : ga_S) (s : ga_M) : ge_N (fun _ => True) (fun α K => cw_L_partners as S s K) := by
  unfold cw_L_partners
  split
  · exact ge_cond (ge_bind (fun q => by obtain ⟨q1 | q1, q2⟩ := q; exact ge_K trivial; exact ge_none)) ge_none
  · exact ge_none
theorem gw_ge_L_firstPartner (as : List Value) (S : ga_S) (s : ga_M) : ge_N (fun _ => True) (fun α K => cw_L_firstPartner as S s K) := by
  unfold cw_L_firstPartner
  split
  · exact ge_cond (ge_bind (fun q => by obtain ⟨q1 | q1, q2⟩ := q; exact ge_K trivial; exact ge_none)) ge_none
  · exact ge_none
theorem gw_ge_L_slotsFor (as : List Value) (S : ga_S) (s : ga_M) : ge_N (fun _ => True) (fun α K => cw_L_slotsFor as S s K) := by
  unfold cw_L_slotsFor
  split
  · exact ge_cond (ge_bind (fun q => by obtain ⟨q1 | q1, q2⟩ := q; exact ge_K trivial; exact ge_none)) ge_none
  · exact ge_none
theorem gw_ge_L_count (as : List Value) (S : ga_S) (s : ga_M) : ge_N (fun _ => True) (fun α K => cw_L_count as S s K) := by
  unfold cw_L_count
  split
  · exact ge_cond (ge_bind (fun q => by obtain ⟨q1 | q1, q2⟩ := q; exact ge_K trivial; exact ge_none)) ge_none
  · exact ge_none
theorem gw_ge_L_lesson (as : List Value) (S : ga_S) (s : ga_M) : ge_N (fun _ => True) (fun α K => cw_L_lesson as S s K) := by
  unfold cw_L_lesson
  split
  · exact ge_cond (ge_bind (fun q => by obtain ⟨q1 | q1, q2⟩ := q; exact ge_K trivial; exact ge_none)) ge_none
  · exact ge_none
theorem gw_ge_L_teacher (as : List Value) (S : ga_S) (s : ga_M) : ge_N (fun _ => True) (fun α K => cw_L_teacher as S s K) := by
  unfold cw_L_teacher
  split
  · exact ge_cond (ge_bind (fun q => by obtain ⟨q1 | q1, q2⟩ := q; exact ge_K trivial; exact ge_none)) ge_none
  · exact ge_none
theorem gw_ge_L_room (as : List Value) (S : ga_S) (s : ga_M) : ge_N (fun _ => True) (fun α K => cw_L_room as S s K) := by
  unfold cw_L_room
  split
  · exact ge_cond (ge_bind (fun q => by obtain ⟨q1 | q1, q2⟩ := q; exact ge_K trivial; exact ge_none)) ge_none
  · exact ge_none
theorem gw_ge_L_subject (as : List Value) (S : ga_S) (s : ga_M) : ge_N (fun _ => True) (fun α K => cw_L_subject as S s K) := by
  unfold cw_L_subject
  split
  · exact ge_cond (ge_bind (fun q => by obtain ⟨q1 | q1, q2⟩ := q; exact ge_K trivial; exact ge_none)) ge_none
  · exact ge_none
theorem gw_ge_L_lessonOfClass (as : List Value) (S : ga_S) (s : ga_M) : ge_N (fun _ => True) (fun α K => cw_L_lessonOfClass as S s K) := by
  unfold cw_L_lessonOfClass
  split
  · exact ge_cond (ge_bind (fun q => by obtain ⟨q1 | q1, q2⟩ := q; exact ge_K trivial; exact ge_none)) ge_none
  · exact ge_none
theorem gw_ge_L_lessonOfTeacher (as : List Value) (S : ga_S) (s : ga_M) : ge_N (fun _ => True) (fun α K => cw_L_lessonOfTeacher as S s K) := by
  unfold cw_L_lessonOfTeacher
  split
  · exact ge_cond (ge_bind (fun q => by obtain ⟨q1 | q1, q2⟩ := q; exact ge_K trivial; exact ge_none)) ge_none
  · exact ge_none
theorem gw_ge_L_lessonInRoom (as : List Value) (S : ga_S) (s : ga_M) : ge_N (fun _ => True) (fun α K => cw_L_lessonInRoom as S s K) := by
  unfold cw_L_lessonInRoom
  split
  · exact ge_cond (ge_bind (fun q => by obtain ⟨q1 | q1, q2⟩ := q; exact ge_K trivial; exact ge_none)) ge_none
  · exact ge_none
theorem gw_ge_L_freeTeachers (as : List Value) (S : ga_S) (s : ga_M) : ge_N (fun _ => True) (fun α K => cw_L_freeTeachers as S s K) := by
  unfold cw_L_freeTeachers
  split
  · exact ge_cond (ge_bind (fun q => by obtain ⟨q1 | q1, q2⟩ := q; exact ge_K trivial; exact ge_none)) ge_none
  · exact ge_none
theorem gw_ge_L_freeRooms (as : List Value) (S : ga_S) (s : ga_M) : ge_N (fun _ => True) (fun α K => cw_L_freeRooms as S s K) := by
  unfold cw_L_freeRooms
  split
  · exact ge_cond (ge_bind (fun q => by obtain ⟨q1 | q1, q2⟩ := q; exact ge_K trivial; exact ge_none)) ge_none
  · exact ge_none
theorem gw_ge_L_openLesson (as : List Value) (S : ga_S) (s : ga_M) : ge_N (fun _ => True) (fun α K => cw_L_openLesson as S s K) := by
  unfold cw_L_openLesson
  split
  · exact ge_cond (ge_bind (fun q => by obtain ⟨q1 | q1, q2⟩ := q; exact ge_K trivial; exact ge_none)) ge_none
  · exact ge_none
theorem gw_ge_L_difference (as : List Value) (S : ga_S) (s : ga_M) : ge_N (fun _ => True) (fun α K => cw_L_difference as S s K) := by
  unfold cw_L_difference
  split
  · exact ge_cond (ge_bind (fun q => by obtain ⟨q1 | q1, q2⟩ := q; exact ge_K trivial; exact ge_none)) ge_none
  · exact ge_none
theorem gw_ge_L_windows (as : List Value) (S : ga_S) (s : ga_M) : ge_N (fun _ => True) (fun α K => cw_L_windows as S s K) := by
  unfold cw_L_windows
  split
  · exact ge_cond (ge_bind (fun q => by obtain ⟨q1 | q1, q2⟩ := q; exact ge_K trivial; exact ge_none)) ge_none
  · exact ge_none
theorem gw_ge_L_classWindows (as : List Value) (S : ga_S) (s : ga_M) : ge_N (fun _ => True) (fun α K => cw_L_classWindows as S s K) := by
  unfold cw_L_classWindows
  split
  · exact ge_cond (ge_bind (fun q => by obtain ⟨q1 | q1, q2⟩ := q; exact ge_K trivial; exact ge_none)) ge_none
  · exact ge_none
theorem gw_ge_L_writeReport (as : List Value) (S : ga_S) (s : ga_M) : ge_N (fun _ => True) (fun α K => cw_L_writeReport as S s K) := by
  unfold cw_L_writeReport
  split
  · exact ge_cond (ge_bind (fun q => by obtain ⟨q1 | q1, q2⟩ := q; exact ge_K trivial; exact ge_none)) ge_none
  · exact ge_none
theorem gw_ge_L_reportByte (as : List Value) (S : ga_S) (s : ga_M) : ge_N (fun _ => True) (fun α K => cw_L_reportByte as S s K) := by
  unfold cw_L_reportByte
  split
  · exact ge_cond (ge_bind (fun q => by obtain ⟨q1 | q1, q2⟩ := q; exact ge_K trivial; exact ge_none)) ge_none
  · exact ge_none
theorem gw_ge_L_undo (as : List Value) (S : ga_S) (s : ga_M) : ge_N (fun _ => True) (fun α K => cw_L_undo as S s K) := by
  unfold cw_L_undo
  split
  · exact ge_cond (ge_bind (fun q => by obtain ⟨q1 | q1, q2⟩ := q; exact ge_K trivial; exact ge_none)) ge_none
  · exact ge_none
theorem ge_w {P P2 : ga_O → Prop} {F : ∀ α : Type, (ga_O → Option α) → Option α} (h : ge_N P F) (hp : ∀ o, P o → P2 o) : ge_N P2 F := fun α k o hk => (h α k o hk).elim fun o1 h1 => ⟨o1, hp _ h1.1, h1.2⟩
theorem ge_Lt (mid : Nat) (as : List Value) (S : ga_S) (s : ga_M) : ge_N (fun _ => True) (fun α K => gaLaw α mid as S s K) := ge_cond (ge_cond (ge_w (ge_G mid as S s) fun _ _ => trivial) ge_none) (ge_cond (ge_cond (ge_cond (ge_cond (ge_cond (ge_cond (ge_cond (ge_cond (gw_ge_L_appendText as S s) ge_none) (ge_cond (gw_ge_L_truncateText as S s) ge_none)) (ge_cond (ge_cond (gw_ge_L_setAbsent as S s) ge_none) (ge_cond (gw_ge_L_cover as S s) ge_none))) (ge_cond (ge_cond (ge_cond (gw_ge_L_supervise as S s) ge_none) (ge_cond (gw_ge_L_repair as S s) ge_none)) (ge_cond (ge_cond (gw_ge_L_exchange as S s) ge_none) (ge_cond (ge_cond (gw_ge_L_move as S s) ge_none) (ge_cond (gw_ge_L_setRoom as S s) ge_none))))) (ge_cond (ge_cond (ge_cond (ge_cond (gw_ge_L_reopen as S s) ge_none) (ge_cond (gw_ge_L_whyNotCover as S s) ge_none)) (ge_cond (ge_cond (gw_ge_L_whyNotSupervise as S s) ge_none) (ge_cond (ge_cond (gw_ge_L_whyNotExchange as S s) ge_none) (ge_cond (gw_ge_L_whyNotMove as S s) ge_none)))) (ge_cond (ge_cond (ge_cond (gw_ge_L_whyNotRoom as S s) ge_none) (ge_cond (gw_ge_L_candidates as S s) ge_none)) (ge_cond (ge_cond (gw_ge_L_chain as S s) ge_none) (ge_cond (ge_cond (gw_ge_L_chainTeacher as S s) ge_none) (ge_cond (gw_ge_L_partners as S s) ge_none)))))) (ge_cond (ge_cond (ge_cond (ge_cond (ge_cond (gw_ge_L_firstPartner as S s) ge_none) (ge_cond (gw_ge_L_slotsFor as S s) ge_none)) (ge_cond (ge_cond (gw_ge_L_count as S s) ge_none) (ge_cond (gw_ge_L_lesson as S s) ge_none))) (ge_cond (ge_cond (ge_cond (gw_ge_L_teacher as S s) ge_none) (ge_cond (gw_ge_L_room as S s) ge_none)) (ge_cond (ge_cond (gw_ge_L_subject as S s) ge_none) (ge_cond (ge_cond (gw_ge_L_lessonOfClass as S s) ge_none) (ge_cond (gw_ge_L_lessonOfTeacher as S s) ge_none))))) (ge_cond (ge_cond (ge_cond (ge_cond (gw_ge_L_lessonInRoom as S s) ge_none) (ge_cond (gw_ge_L_freeTeachers as S s) ge_none)) (ge_cond (ge_cond (gw_ge_L_freeRooms as S s) ge_none) (ge_cond (ge_cond (gw_ge_L_openLesson as S s) ge_none) (ge_cond (gw_ge_L_difference as S s) ge_none)))) (ge_cond (ge_cond (ge_cond (gw_ge_L_windows as S s) ge_none) (ge_cond (gw_ge_L_classWindows as S s) ge_none)) (ge_cond (ge_cond (gw_ge_L_writeReport as S s) ge_none) (ge_cond (ge_cond (gw_ge_L_reportByte as S s) ge_none) (ge_cond (gw_ge_L_undo as S s) ge_none))))))) ge_none) (ge_Kt mid as S s))
theorem ge_Lg : ∀ (α : Type) mid as S σ (k : ga_O → Option α) o, gaLaw α mid as S σ k = some o → ∃ o1, gaLaw ga_O mid as S σ some = some o1 ∧ k o1 = some o := fun α mid as S σ k o h => (ge_Lt mid as S σ α k o h).elim fun o1 h1 => ⟨o1, h1.2⟩
def gw_cl0 : List (Nat × ga_E) := [(0, .new 8, 3, 11, 10, []),
  (3, .dup, 1, 0, 0, []),
  (4, .invokespecial 136, 3, 494, 1, []),
  (7, .astore_n 1, 1, 1, 0, []),
  (8, .new 137, 3, 12, 20, []),
  (11, .dup, 1, 0, 0, []),
  (12, .invokespecial 139, 3, 495, 1, []),
  (15, .astore_n 2, 1, 2, 0, []),
  (16, .iconst 1, 1, 0, 0, [(1, 0)]),
  (17, .newarray .long, 2, 2, 0, []),
  (19, .astore_n 3, 1, 3, 0, []),
  (20, .iconst 0, 1, 0, 0, [(0, 0)]),
  (21, .istore 4, 2, 4, 0, []),
  (23, .iload 4, 2, 4, 0, []),
  (25, .aload_n 0, 1, 0, 0, []),
  (26, .arraylength, 1, 0, 0, []),
  (27, .bipush 6, 2, 0, 0, [(6, 0)]),
  (29, .isub, 1, 0, 0, []),
  (30, .if_icmp .gt 2821, 3, 2851, 0, []),
  (33, .aload_n 0, 1, 0, 0, []),
  (34, .iload 4, 2, 4, 0, []),
  (36, .iaload, 1, 0, 0, []),
  (37, .bipush 63, 2, 0, 0, [(63, 0)]),
  (39, .iand, 1, 0, 0, []),
  (40, .tableswitch 2805 0 46 #[204, 308, 364, 377, 390, 403, 416, 512, 580, 648, 704, 717, 785, 853, 921, 977, 990, 1058, 1126, 1194, 1262, 1330, 1386, 1442, 1510, 1566, 1622, 1678, 1734, 1802, 1870, 1938, 2006, 2074, 2142, 2210, 2266, 2334, 2390, 2446, 2514, 2582, 2595, 2636, 2692, 2748, 2792], 204, 2845, 0, [(0, 244), (1, 348), (2, 404), (3, 417), (4, 430), (5, 443), (6, 456), (7, 552), (8, 620), (9, 688), (10, 744), (11, 757), (12, 825), (13, 893), (14, 961), (15, 1017), (16, 1030), (17, 1098), (18, 1166), (19, 1234), (20, 1302), (21, 1370), (22, 1426), (23, 1482), (24, 1550), (25, 1606), (26, 1662), (27, 1718), (28, 1774), (29, 1842), (30, 1910), (31, 1978), (32, 2046), (33, 2114), (34, 2182), (35, 2250), (36, 2306), (37, 2374), (38, 2430), (39, 2486), (40, 2554), (41, 2622), (42, 2635), (43, 2676), (44, 2732), (45, 2788), (46, 2832)]),
  (244, .aload_n 1, 1, 1, 0, []),
  (245, .aload_n 0, 1, 0, 0, []),
  (246, .iload 4, 2, 4, 0, []),
  (248, .iconst 1, 1, 0, 0, [(1, 0)]),
  (249, .iadd, 1, 0, 0, []),
  (250, .iaload, 1, 0, 0, []),
  (251, .aload_n 0, 1, 0, 0, []),
  (252, .iload 4, 2, 4, 0, []),
  (254, .iconst 2, 1, 0, 0, [(2, 0)]),
  (255, .iadd, 1, 0, 0, []),
  (256, .iaload, 1, 0, 0, []),
  (257, .aload_n 0, 1, 0, 0, []),
  (258, .iload 4, 2, 4, 0, []),
  (260, .iconst 3, 1, 0, 0, [(3, 0)]),
  (261, .iadd, 1, 0, 0, [])]
def gw_cl1 : List (Nat × ga_E) := [(262, .iaload, 1, 0, 0, []),
  (263, .aload_n 0, 1, 0, 0, []),
  (264, .iload 4, 2, 4, 0, []),
  (266, .iconst 4, 1, 0, 0, [(4, 0)]),
  (267, .iadd, 1, 0, 0, []),
  (268, .iaload, 1, 0, 0, []),
  (269, .aload_n 0, 1, 0, 0, []),
  (270, .iload 4, 2, 4, 0, []),
  (272, .iconst 5, 1, 0, 0, [(5, 0)]),
  (273, .iadd, 1, 0, 0, []),
  (274, .iaload, 1, 0, 0, []),
  (275, .aload_n 3, 1, 3, 0, []),
  (276, .invokestatic 140, 3, 445, 7, []),
  (279, .istore 5, 2, 5, 0, []),
  (281, .aload_n 2, 1, 2, 0, []),
  (282, .aload_n 0, 1, 0, 0, []),
  (283, .iload 4, 2, 4, 0, []),
  (285, .iconst 1, 1, 0, 0, [(1, 0)]),
  (286, .iadd, 1, 0, 0, []),
  (287, .iaload, 1, 0, 0, []),
  (288, .aload_n 0, 1, 0, 0, []),
  (289, .iload 4, 2, 4, 0, []),
  (291, .iconst 2, 1, 0, 0, [(2, 0)]),
  (292, .iadd, 1, 0, 0, []),
  (293, .iaload, 1, 0, 0, []),
  (294, .aload_n 0, 1, 0, 0, []),
  (295, .iload 4, 2, 4, 0, []),
  (297, .iconst 3, 1, 0, 0, [(3, 0)]),
  (298, .iadd, 1, 0, 0, []),
  (299, .iaload, 1, 0, 0, []),
  (300, .aload_n 0, 1, 0, 0, []),
  (301, .iload 4, 2, 4, 0, []),
  (303, .iconst 4, 1, 0, 0, [(4, 0)]),
  (304, .iadd, 1, 0, 0, []),
  (305, .iaload, 1, 0, 0, []),
  (306, .aload_n 0, 1, 0, 0, []),
  (307, .iload 4, 2, 4, 0, []),
  (309, .iconst 5, 1, 0, 0, [(5, 0)]),
  (310, .iadd, 1, 0, 0, []),
  (311, .iaload, 1, 0, 0, [])]
def gw_cl2 : List (Nat × ga_E) := [(312, .invokevirtual 145, 3, 9, 6, [(0, 12)]),
  (315, .istore 6, 2, 6, 0, []),
  (317, .aload_n 2, 1, 2, 0, []),
  (318, .invokevirtual 146, 3, 245, 1, [(0, 12)]),
  (321, .iload 5, 2, 5, 0, []),
  (323, .if_icmp .eq 5, 3, 328, 0, []),
  (326, .iconst 0, 1, 0, 0, [(0, 0)]),
  (327, .ireturn, 1, 0, 0, []),
  (328, .iload 5, 2, 5, 0, []),
  (330, .ifCond .ne 15, 3, 345, 0, []),
  (333, .aload_n 3, 1, 3, 0, []),
  (334, .iconst 0, 1, 0, 0, [(0, 0)]),
  (335, .laload, 1, 0, 0, []),
  (336, .iload 6, 2, 6, 0, []),
  (338, .i2l, 1, 0, 0, []),
  (339, .lcmp, 1, 0, 0, []),
  (340, .ifCond .eq 5, 3, 345, 0, []),
  (343, .iconst 0, 1, 0, 0, [(0, 0)]),
  (344, .ireturn, 1, 0, 0, []),
  (345, .goto 2500, 3, 2845, 0, []),
  (348, .aload_n 1, 1, 1, 0, []),
  (349, .aload_n 0, 1, 0, 0, []),
  (350, .iload 4, 2, 4, 0, []),
  (352, .iconst 1, 1, 0, 0, [(1, 0)]),
  (353, .iadd, 1, 0, 0, []),
  (354, .iaload, 1, 0, 0, []),
  (355, .aload_n 3, 1, 3, 0, []),
  (356, .invokestatic 149, 3, 446, 3, []),
  (359, .istore 5, 2, 5, 0, []),
  (361, .aload_n 2, 1, 2, 0, []),
  (362, .aload_n 0, 1, 0, 0, []),
  (363, .iload 4, 2, 4, 0, []),
  (365, .iconst 1, 1, 0, 0, [(1, 0)]),
  (366, .iadd, 1, 0, 0, []),
  (367, .iaload, 1, 0, 0, []),
  (368, .invokevirtual 152, 3, 11, 2, [(0, 12)]),
  (371, .istore 6, 2, 6, 0, []),
  (373, .aload_n 2, 1, 2, 0, []),
  (374, .invokevirtual 146, 3, 245, 1, [(0, 12)]),
  (377, .iload 5, 2, 5, 0, [])]
def gw_cl3 : List (Nat × ga_E) := [(379, .if_icmp .eq 5, 3, 384, 0, []),
  (382, .iconst 0, 1, 0, 0, [(0, 0)]),
  (383, .ireturn, 1, 0, 0, []),
  (384, .iload 5, 2, 5, 0, []),
  (386, .ifCond .ne 15, 3, 401, 0, []),
  (389, .aload_n 3, 1, 3, 0, []),
  (390, .iconst 0, 1, 0, 0, [(0, 0)]),
  (391, .laload, 1, 0, 0, []),
  (392, .iload 6, 2, 6, 0, []),
  (394, .i2l, 1, 0, 0, []),
  (395, .lcmp, 1, 0, 0, []),
  (396, .ifCond .eq 5, 3, 401, 0, []),
  (399, .iconst 0, 1, 0, 0, [(0, 0)]),
  (400, .ireturn, 1, 0, 0, []),
  (401, .goto 2444, 3, 2845, 0, []),
  (404, .aload_n 1, 1, 1, 0, []),
  (405, .invokevirtual 153, 3, 54, 1, [(0, 11)]),
  (408, .aload_n 2, 1, 2, 0, []),
  (409, .invokevirtual 156, 3, 75, 1, [(0, 12)]),
  (412, .if_icmp .eq 2433, 3, 2845, 0, []),
  (415, .iconst 0, 1, 0, 0, [(0, 0)]),
  (416, .ireturn, 1, 0, 0, []),
  (417, .aload_n 1, 1, 1, 0, []),
  (418, .invokevirtual 157, 3, 124, 1, [(0, 11)]),
  (421, .aload_n 2, 1, 2, 0, []),
  (422, .invokevirtual 160, 3, 168, 1, [(0, 12)]),
  (425, .if_icmp .eq 2420, 3, 2845, 0, []),
  (428, .iconst 0, 1, 0, 0, [(0, 0)]),
  (429, .ireturn, 1, 0, 0, []),
  (430, .aload_n 1, 1, 1, 0, []),
  (431, .invokevirtual 161, 3, 169, 1, [(0, 11)]),
  (434, .aload_n 2, 1, 2, 0, []),
  (435, .invokevirtual 164, 3, 170, 1, [(0, 12)]),
  (438, .if_icmp .eq 2407, 3, 2845, 0, []),
  (441, .iconst 0, 1, 0, 0, [(0, 0)]),
  (442, .ireturn, 1, 0, 0, []),
  (443, .aload_n 1, 1, 1, 0, []),
  (444, .invokevirtual 165, 3, 171, 1, [(0, 11)]),
  (447, .aload_n 2, 1, 2, 0, []),
  (448, .invokevirtual 168, 3, 172, 1, [(0, 12)])]
def gw_cl4 : List (Nat × ga_E) := [(451, .if_icmp .eq 2394, 3, 2845, 0, []),
  (454, .iconst 0, 1, 0, 0, [(0, 0)]),
  (455, .ireturn, 1, 0, 0, []),
  (456, .aload_n 1, 1, 1, 0, []),
  (457, .aload_n 0, 1, 0, 0, []),
  (458, .iload 4, 2, 4, 0, []),
  (460, .iconst 1, 1, 0, 0, [(1, 0)]),
  (461, .iadd, 1, 0, 0, []),
  (462, .iaload, 1, 0, 0, []),
  (463, .aload_n 0, 1, 0, 0, []),
  (464, .iload 4, 2, 4, 0, []),
  (466, .iconst 2, 1, 0, 0, [(2, 0)]),
  (467, .iadd, 1, 0, 0, []),
  (468, .iaload, 1, 0, 0, []),
  (469, .aload_n 0, 1, 0, 0, []),
  (470, .iload 4, 2, 4, 0, []),
  (472, .iconst 3, 1, 0, 0, [(3, 0)]),
  (473, .iadd, 1, 0, 0, []),
  (474, .iaload, 1, 0, 0, []),
  (475, .ifCond .eq 7, 3, 482, 0, []),
  (478, .iconst 1, 1, 0, 0, [(1, 0)]),
  (479, .goto 4, 3, 483, 0, []),
  (482, .iconst 0, 1, 0, 0, [(0, 0)]),
  (483, .aload_n 3, 1, 3, 0, []),
  (484, .invokestatic 169, 3, 447, 5, []),
  (487, .istore 5, 2, 5, 0, []),
  (489, .aload_n 2, 1, 2, 0, []),
  (490, .aload_n 0, 1, 0, 0, []),
  (491, .iload 4, 2, 4, 0, []),
  (493, .iconst 1, 1, 0, 0, [(1, 0)]),
  (494, .iadd, 1, 0, 0, []),
  (495, .iaload, 1, 0, 0, []),
  (496, .aload_n 0, 1, 0, 0, []),
  (497, .iload 4, 2, 4, 0, []),
  (499, .iconst 2, 1, 0, 0, [(2, 0)]),
  (500, .iadd, 1, 0, 0, []),
  (501, .iaload, 1, 0, 0, []),
  (502, .aload_n 0, 1, 0, 0, []),
  (503, .iload 4, 2, 4, 0, []),
  (505, .iconst 3, 1, 0, 0, [(3, 0)])]
def gw_cl5 : List (Nat × ga_E) := [(506, .iadd, 1, 0, 0, []),
  (507, .iaload, 1, 0, 0, []),
  (508, .ifCond .eq 7, 3, 515, 0, []),
  (511, .iconst 1, 1, 0, 0, [(1, 0)]),
  (512, .goto 4, 3, 516, 0, []),
  (515, .iconst 0, 1, 0, 0, [(0, 0)]),
  (516, .invokevirtual 172, 3, 175, 4, [(0, 12)]),
  (519, .istore 6, 2, 6, 0, []),
  (521, .aload_n 2, 1, 2, 0, []),
  (522, .invokevirtual 146, 3, 245, 1, [(0, 12)]),
  (525, .iload 5, 2, 5, 0, []),
  (527, .if_icmp .eq 5, 3, 532, 0, []),
  (530, .iconst 0, 1, 0, 0, [(0, 0)]),
  (531, .ireturn, 1, 0, 0, []),
  (532, .iload 5, 2, 5, 0, []),
  (534, .ifCond .ne 15, 3, 549, 0, []),
  (537, .aload_n 3, 1, 3, 0, []),
  (538, .iconst 0, 1, 0, 0, [(0, 0)]),
  (539, .laload, 1, 0, 0, []),
  (540, .iload 6, 2, 6, 0, []),
  (542, .i2l, 1, 0, 0, []),
  (543, .lcmp, 1, 0, 0, []),
  (544, .ifCond .eq 5, 3, 549, 0, []),
  (547, .iconst 0, 1, 0, 0, [(0, 0)]),
  (548, .ireturn, 1, 0, 0, []),
  (549, .goto 2296, 3, 2845, 0, []),
  (552, .aload_n 1, 1, 1, 0, []),
  (553, .aload_n 0, 1, 0, 0, []),
  (554, .iload 4, 2, 4, 0, []),
  (556, .iconst 1, 1, 0, 0, [(1, 0)]),
  (557, .iadd, 1, 0, 0, []),
  (558, .iaload, 1, 0, 0, []),
  (559, .aload_n 0, 1, 0, 0, []),
  (560, .iload 4, 2, 4, 0, []),
  (562, .iconst 2, 1, 0, 0, [(2, 0)]),
  (563, .iadd, 1, 0, 0, []),
  (564, .iaload, 1, 0, 0, []),
  (565, .aload_n 3, 1, 3, 0, []),
  (566, .invokestatic 173, 3, 448, 4, []),
  (569, .istore 5, 2, 5, 0, [])]
def gw_cl6 : List (Nat × ga_E) := [(571, .aload_n 2, 1, 2, 0, []),
  (572, .aload_n 0, 1, 0, 0, []),
  (573, .iload 4, 2, 4, 0, []),
  (575, .iconst 1, 1, 0, 0, [(1, 0)]),
  (576, .iadd, 1, 0, 0, []),
  (577, .iaload, 1, 0, 0, []),
  (578, .aload_n 0, 1, 0, 0, []),
  (579, .iload 4, 2, 4, 0, []),
  (581, .iconst 2, 1, 0, 0, [(2, 0)]),
  (582, .iadd, 1, 0, 0, []),
  (583, .iaload, 1, 0, 0, []),
  (584, .invokevirtual 176, 3, 176, 3, [(0, 12)]),
  (587, .istore 6, 2, 6, 0, []),
  (589, .aload_n 2, 1, 2, 0, []),
  (590, .invokevirtual 146, 3, 245, 1, [(0, 12)]),
  (593, .iload 5, 2, 5, 0, []),
  (595, .if_icmp .eq 5, 3, 600, 0, []),
  (598, .iconst 0, 1, 0, 0, [(0, 0)]),
  (599, .ireturn, 1, 0, 0, []),
  (600, .iload 5, 2, 5, 0, []),
  (602, .ifCond .ne 15, 3, 617, 0, []),
  (605, .aload_n 3, 1, 3, 0, []),
  (606, .iconst 0, 1, 0, 0, [(0, 0)]),
  (607, .laload, 1, 0, 0, []),
  (608, .iload 6, 2, 6, 0, []),
  (610, .i2l, 1, 0, 0, []),
  (611, .lcmp, 1, 0, 0, []),
  (612, .ifCond .eq 5, 3, 617, 0, []),
  (615, .iconst 0, 1, 0, 0, [(0, 0)]),
  (616, .ireturn, 1, 0, 0, []),
  (617, .goto 2228, 3, 2845, 0, []),
  (620, .aload_n 1, 1, 1, 0, []),
  (621, .aload_n 0, 1, 0, 0, []),
  (622, .iload 4, 2, 4, 0, []),
  (624, .iconst 1, 1, 0, 0, [(1, 0)]),
  (625, .iadd, 1, 0, 0, []),
  (626, .iaload, 1, 0, 0, []),
  (627, .aload_n 0, 1, 0, 0, []),
  (628, .iload 4, 2, 4, 0, []),
  (630, .iconst 2, 1, 0, 0, [(2, 0)])]
def gw_cl7 : List (Nat × ga_E) := [(631, .iadd, 1, 0, 0, []),
  (632, .iaload, 1, 0, 0, []),
  (633, .aload_n 3, 1, 3, 0, []),
  (634, .invokestatic 177, 3, 449, 4, []),
  (637, .istore 5, 2, 5, 0, []),
  (639, .aload_n 2, 1, 2, 0, []),
  (640, .aload_n 0, 1, 0, 0, []),
  (641, .iload 4, 2, 4, 0, []),
  (643, .iconst 1, 1, 0, 0, [(1, 0)]),
  (644, .iadd, 1, 0, 0, []),
  (645, .iaload, 1, 0, 0, []),
  (646, .aload_n 0, 1, 0, 0, []),
  (647, .iload 4, 2, 4, 0, []),
  (649, .iconst 2, 1, 0, 0, [(2, 0)]),
  (650, .iadd, 1, 0, 0, []),
  (651, .iaload, 1, 0, 0, []),
  (652, .invokevirtual 179, 3, 178, 3, [(0, 12)]),
  (655, .istore 6, 2, 6, 0, []),
  (657, .aload_n 2, 1, 2, 0, []),
  (658, .invokevirtual 146, 3, 245, 1, [(0, 12)]),
  (661, .iload 5, 2, 5, 0, []),
  (663, .if_icmp .eq 5, 3, 668, 0, []),
  (666, .iconst 0, 1, 0, 0, [(0, 0)]),
  (667, .ireturn, 1, 0, 0, []),
  (668, .iload 5, 2, 5, 0, []),
  (670, .ifCond .ne 15, 3, 685, 0, []),
  (673, .aload_n 3, 1, 3, 0, []),
  (674, .iconst 0, 1, 0, 0, [(0, 0)]),
  (675, .laload, 1, 0, 0, []),
  (676, .iload 6, 2, 6, 0, []),
  (678, .i2l, 1, 0, 0, []),
  (679, .lcmp, 1, 0, 0, []),
  (680, .ifCond .eq 5, 3, 685, 0, []),
  (683, .iconst 0, 1, 0, 0, [(0, 0)]),
  (684, .ireturn, 1, 0, 0, []),
  (685, .goto 2160, 3, 2845, 0, []),
  (688, .aload_n 1, 1, 1, 0, []),
  (689, .aload_n 0, 1, 0, 0, []),
  (690, .iload 4, 2, 4, 0, []),
  (692, .iconst 1, 1, 0, 0, [(1, 0)])]
def gw_cl8 : List (Nat × ga_E) := [(693, .iadd, 1, 0, 0, []),
  (694, .iaload, 1, 0, 0, []),
  (695, .aload_n 3, 1, 3, 0, []),
  (696, .invokestatic 180, 3, 450, 3, []),
  (699, .istore 5, 2, 5, 0, []),
  (701, .aload_n 2, 1, 2, 0, []),
  (702, .aload_n 0, 1, 0, 0, []),
  (703, .iload 4, 2, 4, 0, []),
  (705, .iconst 1, 1, 0, 0, [(1, 0)]),
  (706, .iadd, 1, 0, 0, []),
  (707, .iaload, 1, 0, 0, []),
  (708, .invokevirtual 182, 3, 179, 2, [(0, 12)]),
  (711, .istore 6, 2, 6, 0, []),
  (713, .aload_n 2, 1, 2, 0, []),
  (714, .invokevirtual 146, 3, 245, 1, [(0, 12)]),
  (717, .iload 5, 2, 5, 0, []),
  (719, .if_icmp .eq 5, 3, 724, 0, []),
  (722, .iconst 0, 1, 0, 0, [(0, 0)]),
  (723, .ireturn, 1, 0, 0, []),
  (724, .iload 5, 2, 5, 0, []),
  (726, .ifCond .ne 15, 3, 741, 0, []),
  (729, .aload_n 3, 1, 3, 0, []),
  (730, .iconst 0, 1, 0, 0, [(0, 0)]),
  (731, .laload, 1, 0, 0, []),
  (732, .iload 6, 2, 6, 0, []),
  (734, .i2l, 1, 0, 0, []),
  (735, .lcmp, 1, 0, 0, []),
  (736, .ifCond .eq 5, 3, 741, 0, []),
  (739, .iconst 0, 1, 0, 0, [(0, 0)]),
  (740, .ireturn, 1, 0, 0, []),
  (741, .goto 2104, 3, 2845, 0, []),
  (744, .aload_n 1, 1, 1, 0, []),
  (745, .invokevirtual 183, 3, 180, 1, [(0, 11)]),
  (748, .aload_n 2, 1, 2, 0, []),
  (749, .invokevirtual 186, 3, 181, 1, [(0, 12)]),
  (752, .if_icmp .eq 2093, 3, 2845, 0, []),
  (755, .iconst 0, 1, 0, 0, [(0, 0)]),
  (756, .ireturn, 1, 0, 0, []),
  (757, .aload_n 1, 1, 1, 0, []),
  (758, .aload_n 0, 1, 0, 0, [])]
def gw_cl9 : List (Nat × ga_E) := [(759, .iload 4, 2, 4, 0, []),
  (761, .iconst 1, 1, 0, 0, [(1, 0)]),
  (762, .iadd, 1, 0, 0, []),
  (763, .iaload, 1, 0, 0, []),
  (764, .aload_n 0, 1, 0, 0, []),
  (765, .iload 4, 2, 4, 0, []),
  (767, .iconst 2, 1, 0, 0, [(2, 0)]),
  (768, .iadd, 1, 0, 0, []),
  (769, .iaload, 1, 0, 0, []),
  (770, .aload_n 3, 1, 3, 0, []),
  (771, .invokestatic 187, 3, 451, 4, []),
  (774, .istore 5, 2, 5, 0, []),
  (776, .aload_n 2, 1, 2, 0, []),
  (777, .aload_n 0, 1, 0, 0, []),
  (778, .iload 4, 2, 4, 0, []),
  (780, .iconst 1, 1, 0, 0, [(1, 0)]),
  (781, .iadd, 1, 0, 0, []),
  (782, .iaload, 1, 0, 0, []),
  (783, .aload_n 0, 1, 0, 0, []),
  (784, .iload 4, 2, 4, 0, []),
  (786, .iconst 2, 1, 0, 0, [(2, 0)]),
  (787, .iadd, 1, 0, 0, []),
  (788, .iaload, 1, 0, 0, []),
  (789, .invokevirtual 189, 3, 182, 3, [(0, 12)]),
  (792, .istore 6, 2, 6, 0, []),
  (794, .aload_n 2, 1, 2, 0, []),
  (795, .invokevirtual 146, 3, 245, 1, [(0, 12)]),
  (798, .iload 5, 2, 5, 0, []),
  (800, .if_icmp .eq 5, 3, 805, 0, []),
  (803, .iconst 0, 1, 0, 0, [(0, 0)]),
  (804, .ireturn, 1, 0, 0, []),
  (805, .iload 5, 2, 5, 0, []),
  (807, .ifCond .ne 15, 3, 822, 0, []),
  (810, .aload_n 3, 1, 3, 0, []),
  (811, .iconst 0, 1, 0, 0, [(0, 0)]),
  (812, .laload, 1, 0, 0, []),
  (813, .iload 6, 2, 6, 0, []),
  (815, .i2l, 1, 0, 0, []),
  (816, .lcmp, 1, 0, 0, []),
  (817, .ifCond .eq 5, 3, 822, 0, [])]
def gw_cl10 : List (Nat × ga_E) := [(820, .iconst 0, 1, 0, 0, [(0, 0)]),
  (821, .ireturn, 1, 0, 0, []),
  (822, .goto 2023, 3, 2845, 0, []),
  (825, .aload_n 1, 1, 1, 0, []),
  (826, .aload_n 0, 1, 0, 0, []),
  (827, .iload 4, 2, 4, 0, []),
  (829, .iconst 1, 1, 0, 0, [(1, 0)]),
  (830, .iadd, 1, 0, 0, []),
  (831, .iaload, 1, 0, 0, []),
  (832, .aload_n 0, 1, 0, 0, []),
  (833, .iload 4, 2, 4, 0, []),
  (835, .iconst 2, 1, 0, 0, [(2, 0)]),
  (836, .iadd, 1, 0, 0, []),
  (837, .iaload, 1, 0, 0, []),
  (838, .aload_n 3, 1, 3, 0, []),
  (839, .invokestatic 190, 3, 452, 4, []),
  (842, .istore 5, 2, 5, 0, []),
  (844, .aload_n 2, 1, 2, 0, []),
  (845, .aload_n 0, 1, 0, 0, []),
  (846, .iload 4, 2, 4, 0, []),
  (848, .iconst 1, 1, 0, 0, [(1, 0)]),
  (849, .iadd, 1, 0, 0, []),
  (850, .iaload, 1, 0, 0, []),
  (851, .aload_n 0, 1, 0, 0, []),
  (852, .iload 4, 2, 4, 0, []),
  (854, .iconst 2, 1, 0, 0, [(2, 0)]),
  (855, .iadd, 1, 0, 0, []),
  (856, .iaload, 1, 0, 0, []),
  (857, .invokevirtual 192, 3, 183, 3, [(0, 12)]),
  (860, .istore 6, 2, 6, 0, []),
  (862, .aload_n 2, 1, 2, 0, []),
  (863, .invokevirtual 146, 3, 245, 1, [(0, 12)]),
  (866, .iload 5, 2, 5, 0, []),
  (868, .if_icmp .eq 5, 3, 873, 0, []),
  (871, .iconst 0, 1, 0, 0, [(0, 0)]),
  (872, .ireturn, 1, 0, 0, []),
  (873, .iload 5, 2, 5, 0, []),
  (875, .ifCond .ne 15, 3, 890, 0, []),
  (878, .aload_n 3, 1, 3, 0, []),
  (879, .iconst 0, 1, 0, 0, [(0, 0)])]
def gw_cl11 : List (Nat × ga_E) := [(880, .laload, 1, 0, 0, []),
  (881, .iload 6, 2, 6, 0, []),
  (883, .i2l, 1, 0, 0, []),
  (884, .lcmp, 1, 0, 0, []),
  (885, .ifCond .eq 5, 3, 890, 0, []),
  (888, .iconst 0, 1, 0, 0, [(0, 0)]),
  (889, .ireturn, 1, 0, 0, []),
  (890, .goto 1955, 3, 2845, 0, []),
  (893, .aload_n 1, 1, 1, 0, []),
  (894, .aload_n 0, 1, 0, 0, []),
  (895, .iload 4, 2, 4, 0, []),
  (897, .iconst 1, 1, 0, 0, [(1, 0)]),
  (898, .iadd, 1, 0, 0, []),
  (899, .iaload, 1, 0, 0, []),
  (900, .aload_n 0, 1, 0, 0, []),
  (901, .iload 4, 2, 4, 0, []),
  (903, .iconst 2, 1, 0, 0, [(2, 0)]),
  (904, .iadd, 1, 0, 0, []),
  (905, .iaload, 1, 0, 0, []),
  (906, .aload_n 3, 1, 3, 0, []),
  (907, .invokestatic 193, 3, 453, 4, []),
  (910, .istore 5, 2, 5, 0, []),
  (912, .aload_n 2, 1, 2, 0, []),
  (913, .aload_n 0, 1, 0, 0, []),
  (914, .iload 4, 2, 4, 0, []),
  (916, .iconst 1, 1, 0, 0, [(1, 0)]),
  (917, .iadd, 1, 0, 0, []),
  (918, .iaload, 1, 0, 0, []),
  (919, .aload_n 0, 1, 0, 0, []),
  (920, .iload 4, 2, 4, 0, []),
  (922, .iconst 2, 1, 0, 0, [(2, 0)]),
  (923, .iadd, 1, 0, 0, []),
  (924, .iaload, 1, 0, 0, []),
  (925, .invokevirtual 195, 3, 184, 3, [(0, 12)]),
  (928, .istore 6, 2, 6, 0, []),
  (930, .aload_n 2, 1, 2, 0, []),
  (931, .invokevirtual 146, 3, 245, 1, [(0, 12)]),
  (934, .iload 5, 2, 5, 0, []),
  (936, .if_icmp .eq 5, 3, 941, 0, []),
  (939, .iconst 0, 1, 0, 0, [(0, 0)])]
def gw_cl12 : List (Nat × ga_E) := [(940, .ireturn, 1, 0, 0, []),
  (941, .iload 5, 2, 5, 0, []),
  (943, .ifCond .ne 15, 3, 958, 0, []),
  (946, .aload_n 3, 1, 3, 0, []),
  (947, .iconst 0, 1, 0, 0, [(0, 0)]),
  (948, .laload, 1, 0, 0, []),
  (949, .iload 6, 2, 6, 0, []),
  (951, .i2l, 1, 0, 0, []),
  (952, .lcmp, 1, 0, 0, []),
  (953, .ifCond .eq 5, 3, 958, 0, []),
  (956, .iconst 0, 1, 0, 0, [(0, 0)]),
  (957, .ireturn, 1, 0, 0, []),
  (958, .goto 1887, 3, 2845, 0, []),
  (961, .aload_n 1, 1, 1, 0, []),
  (962, .aload_n 0, 1, 0, 0, []),
  (963, .iload 4, 2, 4, 0, []),
  (965, .iconst 1, 1, 0, 0, [(1, 0)]),
  (966, .iadd, 1, 0, 0, []),
  (967, .iaload, 1, 0, 0, []),
  (968, .aload_n 3, 1, 3, 0, []),
  (969, .invokestatic 196, 3, 454, 3, []),
  (972, .istore 5, 2, 5, 0, []),
  (974, .aload_n 2, 1, 2, 0, []),
  (975, .aload_n 0, 1, 0, 0, []),
  (976, .iload 4, 2, 4, 0, []),
  (978, .iconst 1, 1, 0, 0, [(1, 0)]),
  (979, .iadd, 1, 0, 0, []),
  (980, .iaload, 1, 0, 0, []),
  (981, .invokevirtual 198, 3, 185, 2, [(0, 12)]),
  (984, .istore 6, 2, 6, 0, []),
  (986, .aload_n 2, 1, 2, 0, []),
  (987, .invokevirtual 146, 3, 245, 1, [(0, 12)]),
  (990, .iload 5, 2, 5, 0, []),
  (992, .if_icmp .eq 5, 3, 997, 0, []),
  (995, .iconst 0, 1, 0, 0, [(0, 0)]),
  (996, .ireturn, 1, 0, 0, []),
  (997, .iload 5, 2, 5, 0, []),
  (999, .ifCond .ne 15, 3, 1014, 0, []),
  (1002, .aload_n 3, 1, 3, 0, []),
  (1003, .iconst 0, 1, 0, 0, [(0, 0)])]
def gw_cl13 : List (Nat × ga_E) := [(1004, .laload, 1, 0, 0, []),
  (1005, .iload 6, 2, 6, 0, []),
  (1007, .i2l, 1, 0, 0, []),
  (1008, .lcmp, 1, 0, 0, []),
  (1009, .ifCond .eq 5, 3, 1014, 0, []),
  (1012, .iconst 0, 1, 0, 0, [(0, 0)]),
  (1013, .ireturn, 1, 0, 0, []),
  (1014, .goto 1831, 3, 2845, 0, []),
  (1017, .aload_n 1, 1, 1, 0, []),
  (1018, .invokevirtual 199, 3, 188, 1, [(0, 11)]),
  (1021, .aload_n 2, 1, 2, 0, []),
  (1022, .invokevirtual 202, 3, 191, 1, [(0, 12)]),
  (1025, .if_icmp .eq 1820, 3, 2845, 0, []),
  (1028, .iconst 0, 1, 0, 0, [(0, 0)]),
  (1029, .ireturn, 1, 0, 0, []),
  (1030, .aload_n 1, 1, 1, 0, []),
  (1031, .aload_n 0, 1, 0, 0, []),
  (1032, .iload 4, 2, 4, 0, []),
  (1034, .iconst 1, 1, 0, 0, [(1, 0)]),
  (1035, .iadd, 1, 0, 0, []),
  (1036, .iaload, 1, 0, 0, []),
  (1037, .aload_n 0, 1, 0, 0, []),
  (1038, .iload 4, 2, 4, 0, []),
  (1040, .iconst 2, 1, 0, 0, [(2, 0)]),
  (1041, .iadd, 1, 0, 0, []),
  (1042, .iaload, 1, 0, 0, []),
  (1043, .aload_n 3, 1, 3, 0, []),
  (1044, .invokestatic 203, 3, 455, 4, []),
  (1047, .istore 5, 2, 5, 0, []),
  (1049, .aload_n 2, 1, 2, 0, []),
  (1050, .aload_n 0, 1, 0, 0, []),
  (1051, .iload 4, 2, 4, 0, []),
  (1053, .iconst 1, 1, 0, 0, [(1, 0)]),
  (1054, .iadd, 1, 0, 0, []),
  (1055, .iaload, 1, 0, 0, []),
  (1056, .aload_n 0, 1, 0, 0, []),
  (1057, .iload 4, 2, 4, 0, []),
  (1059, .iconst 2, 1, 0, 0, [(2, 0)]),
  (1060, .iadd, 1, 0, 0, []),
  (1061, .iaload, 1, 0, 0, [])]
def gw_cl14 : List (Nat × ga_E) := [(1062, .invokevirtual 205, 3, 192, 3, [(0, 12)]),
  (1065, .istore 6, 2, 6, 0, []),
  (1067, .aload_n 2, 1, 2, 0, []),
  (1068, .invokevirtual 146, 3, 245, 1, [(0, 12)]),
  (1071, .iload 5, 2, 5, 0, []),
  (1073, .if_icmp .eq 5, 3, 1078, 0, []),
  (1076, .iconst 0, 1, 0, 0, [(0, 0)]),
  (1077, .ireturn, 1, 0, 0, []),
  (1078, .iload 5, 2, 5, 0, []),
  (1080, .ifCond .ne 15, 3, 1095, 0, []),
  (1083, .aload_n 3, 1, 3, 0, []),
  (1084, .iconst 0, 1, 0, 0, [(0, 0)]),
  (1085, .laload, 1, 0, 0, []),
  (1086, .iload 6, 2, 6, 0, []),
  (1088, .i2l, 1, 0, 0, []),
  (1089, .lcmp, 1, 0, 0, []),
  (1090, .ifCond .eq 5, 3, 1095, 0, []),
  (1093, .iconst 0, 1, 0, 0, [(0, 0)]),
  (1094, .ireturn, 1, 0, 0, []),
  (1095, .goto 1750, 3, 2845, 0, []),
  (1098, .aload_n 1, 1, 1, 0, []),
  (1099, .aload_n 0, 1, 0, 0, []),
  (1100, .iload 4, 2, 4, 0, []),
  (1102, .iconst 1, 1, 0, 0, [(1, 0)]),
  (1103, .iadd, 1, 0, 0, []),
  (1104, .iaload, 1, 0, 0, []),
  (1105, .aload_n 0, 1, 0, 0, []),
  (1106, .iload 4, 2, 4, 0, []),
  (1108, .iconst 2, 1, 0, 0, [(2, 0)]),
  (1109, .iadd, 1, 0, 0, []),
  (1110, .iaload, 1, 0, 0, []),
  (1111, .aload_n 3, 1, 3, 0, []),
  (1112, .invokestatic 206, 3, 456, 4, []),
  (1115, .istore 5, 2, 5, 0, []),
  (1117, .aload_n 2, 1, 2, 0, []),
  (1118, .aload_n 0, 1, 0, 0, []),
  (1119, .iload 4, 2, 4, 0, []),
  (1121, .iconst 1, 1, 0, 0, [(1, 0)]),
  (1122, .iadd, 1, 0, 0, []),
  (1123, .iaload, 1, 0, 0, [])]
def gw_cl15 : List (Nat × ga_E) := [(1124, .aload_n 0, 1, 0, 0, []),
  (1125, .iload 4, 2, 4, 0, []),
  (1127, .iconst 2, 1, 0, 0, [(2, 0)]),
  (1128, .iadd, 1, 0, 0, []),
  (1129, .iaload, 1, 0, 0, []),
  (1130, .invokevirtual 208, 3, 193, 3, [(0, 12)]),
  (1133, .istore 6, 2, 6, 0, []),
  (1135, .aload_n 2, 1, 2, 0, []),
  (1136, .invokevirtual 146, 3, 245, 1, [(0, 12)]),
  (1139, .iload 5, 2, 5, 0, []),
  (1141, .if_icmp .eq 5, 3, 1146, 0, []),
  (1144, .iconst 0, 1, 0, 0, [(0, 0)]),
  (1145, .ireturn, 1, 0, 0, []),
  (1146, .iload 5, 2, 5, 0, []),
  (1148, .ifCond .ne 15, 3, 1163, 0, []),
  (1151, .aload_n 3, 1, 3, 0, []),
  (1152, .iconst 0, 1, 0, 0, [(0, 0)]),
  (1153, .laload, 1, 0, 0, []),
  (1154, .iload 6, 2, 6, 0, []),
  (1156, .i2l, 1, 0, 0, []),
  (1157, .lcmp, 1, 0, 0, []),
  (1158, .ifCond .eq 5, 3, 1163, 0, []),
  (1161, .iconst 0, 1, 0, 0, [(0, 0)]),
  (1162, .ireturn, 1, 0, 0, []),
  (1163, .goto 1682, 3, 2845, 0, []),
  (1166, .aload_n 1, 1, 1, 0, []),
  (1167, .aload_n 0, 1, 0, 0, []),
  (1168, .iload 4, 2, 4, 0, []),
  (1170, .iconst 1, 1, 0, 0, [(1, 0)]),
  (1171, .iadd, 1, 0, 0, []),
  (1172, .iaload, 1, 0, 0, []),
  (1173, .aload_n 0, 1, 0, 0, []),
  (1174, .iload 4, 2, 4, 0, []),
  (1176, .iconst 2, 1, 0, 0, [(2, 0)]),
  (1177, .iadd, 1, 0, 0, []),
  (1178, .iaload, 1, 0, 0, []),
  (1179, .aload_n 3, 1, 3, 0, []),
  (1180, .invokestatic 209, 3, 457, 4, []),
  (1183, .istore 5, 2, 5, 0, []),
  (1185, .aload_n 2, 1, 2, 0, [])]
def gw_cl16 : List (Nat × ga_E) := [(1186, .aload_n 0, 1, 0, 0, []),
  (1187, .iload 4, 2, 4, 0, []),
  (1189, .iconst 1, 1, 0, 0, [(1, 0)]),
  (1190, .iadd, 1, 0, 0, []),
  (1191, .iaload, 1, 0, 0, []),
  (1192, .aload_n 0, 1, 0, 0, []),
  (1193, .iload 4, 2, 4, 0, []),
  (1195, .iconst 2, 1, 0, 0, [(2, 0)]),
  (1196, .iadd, 1, 0, 0, []),
  (1197, .iaload, 1, 0, 0, []),
  (1198, .invokevirtual 211, 3, 194, 3, [(0, 12)]),
  (1201, .istore 6, 2, 6, 0, []),
  (1203, .aload_n 2, 1, 2, 0, []),
  (1204, .invokevirtual 146, 3, 245, 1, [(0, 12)]),
  (1207, .iload 5, 2, 5, 0, []),
  (1209, .if_icmp .eq 5, 3, 1214, 0, []),
  (1212, .iconst 0, 1, 0, 0, [(0, 0)]),
  (1213, .ireturn, 1, 0, 0, []),
  (1214, .iload 5, 2, 5, 0, []),
  (1216, .ifCond .ne 15, 3, 1231, 0, []),
  (1219, .aload_n 3, 1, 3, 0, []),
  (1220, .iconst 0, 1, 0, 0, [(0, 0)]),
  (1221, .laload, 1, 0, 0, []),
  (1222, .iload 6, 2, 6, 0, []),
  (1224, .i2l, 1, 0, 0, []),
  (1225, .lcmp, 1, 0, 0, []),
  (1226, .ifCond .eq 5, 3, 1231, 0, []),
  (1229, .iconst 0, 1, 0, 0, [(0, 0)]),
  (1230, .ireturn, 1, 0, 0, []),
  (1231, .goto 1614, 3, 2845, 0, []),
  (1234, .aload_n 1, 1, 1, 0, []),
  (1235, .aload_n 0, 1, 0, 0, []),
  (1236, .iload 4, 2, 4, 0, []),
  (1238, .iconst 1, 1, 0, 0, [(1, 0)]),
  (1239, .iadd, 1, 0, 0, []),
  (1240, .iaload, 1, 0, 0, []),
  (1241, .aload_n 0, 1, 0, 0, []),
  (1242, .iload 4, 2, 4, 0, []),
  (1244, .iconst 2, 1, 0, 0, [(2, 0)]),
  (1245, .iadd, 1, 0, 0, [])]
def gw_cl17 : List (Nat × ga_E) := [(1246, .iaload, 1, 0, 0, []),
  (1247, .aload_n 3, 1, 3, 0, []),
  (1248, .invokestatic 212, 3, 458, 4, []),
  (1251, .istore 5, 2, 5, 0, []),
  (1253, .aload_n 2, 1, 2, 0, []),
  (1254, .aload_n 0, 1, 0, 0, []),
  (1255, .iload 4, 2, 4, 0, []),
  (1257, .iconst 1, 1, 0, 0, [(1, 0)]),
  (1258, .iadd, 1, 0, 0, []),
  (1259, .iaload, 1, 0, 0, []),
  (1260, .aload_n 0, 1, 0, 0, []),
  (1261, .iload 4, 2, 4, 0, []),
  (1263, .iconst 2, 1, 0, 0, [(2, 0)]),
  (1264, .iadd, 1, 0, 0, []),
  (1265, .iaload, 1, 0, 0, []),
  (1266, .invokevirtual 214, 3, 195, 3, [(0, 12)]),
  (1269, .istore 6, 2, 6, 0, []),
  (1271, .aload_n 2, 1, 2, 0, []),
  (1272, .invokevirtual 146, 3, 245, 1, [(0, 12)]),
  (1275, .iload 5, 2, 5, 0, []),
  (1277, .if_icmp .eq 5, 3, 1282, 0, []),
  (1280, .iconst 0, 1, 0, 0, [(0, 0)]),
  (1281, .ireturn, 1, 0, 0, []),
  (1282, .iload 5, 2, 5, 0, []),
  (1284, .ifCond .ne 15, 3, 1299, 0, []),
  (1287, .aload_n 3, 1, 3, 0, []),
  (1288, .iconst 0, 1, 0, 0, [(0, 0)]),
  (1289, .laload, 1, 0, 0, []),
  (1290, .iload 6, 2, 6, 0, []),
  (1292, .i2l, 1, 0, 0, []),
  (1293, .lcmp, 1, 0, 0, []),
  (1294, .ifCond .eq 5, 3, 1299, 0, []),
  (1297, .iconst 0, 1, 0, 0, [(0, 0)]),
  (1298, .ireturn, 1, 0, 0, []),
  (1299, .goto 1546, 3, 2845, 0, []),
  (1302, .aload_n 1, 1, 1, 0, []),
  (1303, .aload_n 0, 1, 0, 0, []),
  (1304, .iload 4, 2, 4, 0, []),
  (1306, .iconst 1, 1, 0, 0, [(1, 0)]),
  (1307, .iadd, 1, 0, 0, [])]
def gw_cl18 : List (Nat × ga_E) := [(1308, .iaload, 1, 0, 0, []),
  (1309, .aload_n 0, 1, 0, 0, []),
  (1310, .iload 4, 2, 4, 0, []),
  (1312, .iconst 2, 1, 0, 0, [(2, 0)]),
  (1313, .iadd, 1, 0, 0, []),
  (1314, .iaload, 1, 0, 0, []),
  (1315, .aload_n 3, 1, 3, 0, []),
  (1316, .invokestatic 215, 3, 459, 4, []),
  (1319, .istore 5, 2, 5, 0, []),
  (1321, .aload_n 2, 1, 2, 0, []),
  (1322, .aload_n 0, 1, 0, 0, []),
  (1323, .iload 4, 2, 4, 0, []),
  (1325, .iconst 1, 1, 0, 0, [(1, 0)]),
  (1326, .iadd, 1, 0, 0, []),
  (1327, .iaload, 1, 0, 0, []),
  (1328, .aload_n 0, 1, 0, 0, []),
  (1329, .iload 4, 2, 4, 0, []),
  (1331, .iconst 2, 1, 0, 0, [(2, 0)]),
  (1332, .iadd, 1, 0, 0, []),
  (1333, .iaload, 1, 0, 0, []),
  (1334, .invokevirtual 217, 3, 196, 3, [(0, 12)]),
  (1337, .istore 6, 2, 6, 0, []),
  (1339, .aload_n 2, 1, 2, 0, []),
  (1340, .invokevirtual 146, 3, 245, 1, [(0, 12)]),
  (1343, .iload 5, 2, 5, 0, []),
  (1345, .if_icmp .eq 5, 3, 1350, 0, []),
  (1348, .iconst 0, 1, 0, 0, [(0, 0)]),
  (1349, .ireturn, 1, 0, 0, []),
  (1350, .iload 5, 2, 5, 0, []),
  (1352, .ifCond .ne 15, 3, 1367, 0, []),
  (1355, .aload_n 3, 1, 3, 0, []),
  (1356, .iconst 0, 1, 0, 0, [(0, 0)]),
  (1357, .laload, 1, 0, 0, []),
  (1358, .iload 6, 2, 6, 0, []),
  (1360, .i2l, 1, 0, 0, []),
  (1361, .lcmp, 1, 0, 0, []),
  (1362, .ifCond .eq 5, 3, 1367, 0, []),
  (1365, .iconst 0, 1, 0, 0, [(0, 0)]),
  (1366, .ireturn, 1, 0, 0, []),
  (1367, .goto 1478, 3, 2845, 0, [])]
def gw_cl19 : List (Nat × ga_E) := [(1370, .aload_n 1, 1, 1, 0, []),
  (1371, .aload_n 0, 1, 0, 0, []),
  (1372, .iload 4, 2, 4, 0, []),
  (1374, .iconst 1, 1, 0, 0, [(1, 0)]),
  (1375, .iadd, 1, 0, 0, []),
  (1376, .iaload, 1, 0, 0, []),
  (1377, .aload_n 3, 1, 3, 0, []),
  (1378, .invokestatic 218, 3, 460, 3, []),
  (1381, .istore 5, 2, 5, 0, []),
  (1383, .aload_n 2, 1, 2, 0, []),
  (1384, .aload_n 0, 1, 0, 0, []),
  (1385, .iload 4, 2, 4, 0, []),
  (1387, .iconst 1, 1, 0, 0, [(1, 0)]),
  (1388, .iadd, 1, 0, 0, []),
  (1389, .iaload, 1, 0, 0, []),
  (1390, .invokevirtual 220, 3, 197, 2, [(0, 12)]),
  (1393, .istore 6, 2, 6, 0, []),
  (1395, .aload_n 2, 1, 2, 0, []),
  (1396, .invokevirtual 146, 3, 245, 1, [(0, 12)]),
  (1399, .iload 5, 2, 5, 0, []),
  (1401, .if_icmp .eq 5, 3, 1406, 0, []),
  (1404, .iconst 0, 1, 0, 0, [(0, 0)]),
  (1405, .ireturn, 1, 0, 0, []),
  (1406, .iload 5, 2, 5, 0, []),
  (1408, .ifCond .ne 15, 3, 1423, 0, []),
  (1411, .aload_n 3, 1, 3, 0, []),
  (1412, .iconst 0, 1, 0, 0, [(0, 0)]),
  (1413, .laload, 1, 0, 0, []),
  (1414, .iload 6, 2, 6, 0, []),
  (1416, .i2l, 1, 0, 0, []),
  (1417, .lcmp, 1, 0, 0, []),
  (1418, .ifCond .eq 5, 3, 1423, 0, []),
  (1421, .iconst 0, 1, 0, 0, [(0, 0)]),
  (1422, .ireturn, 1, 0, 0, []),
  (1423, .goto 1422, 3, 2845, 0, []),
  (1426, .aload_n 1, 1, 1, 0, []),
  (1427, .aload_n 0, 1, 0, 0, []),
  (1428, .iload 4, 2, 4, 0, []),
  (1430, .iconst 1, 1, 0, 0, [(1, 0)]),
  (1431, .iadd, 1, 0, 0, [])]
def gw_cl20 : List (Nat × ga_E) := [(1432, .iaload, 1, 0, 0, []),
  (1433, .aload_n 3, 1, 3, 0, []),
  (1434, .invokestatic 221, 3, 461, 3, []),
  (1437, .istore 5, 2, 5, 0, []),
  (1439, .aload_n 2, 1, 2, 0, []),
  (1440, .aload_n 0, 1, 0, 0, []),
  (1441, .iload 4, 2, 4, 0, []),
  (1443, .iconst 1, 1, 0, 0, [(1, 0)]),
  (1444, .iadd, 1, 0, 0, []),
  (1445, .iaload, 1, 0, 0, []),
  (1446, .invokevirtual 223, 3, 198, 2, [(0, 12)]),
  (1449, .istore 6, 2, 6, 0, []),
  (1451, .aload_n 2, 1, 2, 0, []),
  (1452, .invokevirtual 146, 3, 245, 1, [(0, 12)]),
  (1455, .iload 5, 2, 5, 0, []),
  (1457, .if_icmp .eq 5, 3, 1462, 0, []),
  (1460, .iconst 0, 1, 0, 0, [(0, 0)]),
  (1461, .ireturn, 1, 0, 0, []),
  (1462, .iload 5, 2, 5, 0, []),
  (1464, .ifCond .ne 15, 3, 1479, 0, []),
  (1467, .aload_n 3, 1, 3, 0, []),
  (1468, .iconst 0, 1, 0, 0, [(0, 0)]),
  (1469, .laload, 1, 0, 0, []),
  (1470, .iload 6, 2, 6, 0, []),
  (1472, .i2l, 1, 0, 0, []),
  (1473, .lcmp, 1, 0, 0, []),
  (1474, .ifCond .eq 5, 3, 1479, 0, []),
  (1477, .iconst 0, 1, 0, 0, [(0, 0)]),
  (1478, .ireturn, 1, 0, 0, []),
  (1479, .goto 1366, 3, 2845, 0, []),
  (1482, .aload_n 1, 1, 1, 0, []),
  (1483, .aload_n 0, 1, 0, 0, []),
  (1484, .iload 4, 2, 4, 0, []),
  (1486, .iconst 1, 1, 0, 0, [(1, 0)]),
  (1487, .iadd, 1, 0, 0, []),
  (1488, .iaload, 1, 0, 0, []),
  (1489, .aload_n 0, 1, 0, 0, []),
  (1490, .iload 4, 2, 4, 0, []),
  (1492, .iconst 2, 1, 0, 0, [(2, 0)]),
  (1493, .iadd, 1, 0, 0, [])]
def gw_cl21 : List (Nat × ga_E) := [(1494, .iaload, 1, 0, 0, []),
  (1495, .aload_n 3, 1, 3, 0, []),
  (1496, .invokestatic 224, 3, 462, 4, []),
  (1499, .istore 5, 2, 5, 0, []),
  (1501, .aload_n 2, 1, 2, 0, []),
  (1502, .aload_n 0, 1, 0, 0, []),
  (1503, .iload 4, 2, 4, 0, []),
  (1505, .iconst 1, 1, 0, 0, [(1, 0)]),
  (1506, .iadd, 1, 0, 0, []),
  (1507, .iaload, 1, 0, 0, []),
  (1508, .aload_n 0, 1, 0, 0, []),
  (1509, .iload 4, 2, 4, 0, []),
  (1511, .iconst 2, 1, 0, 0, [(2, 0)]),
  (1512, .iadd, 1, 0, 0, []),
  (1513, .iaload, 1, 0, 0, []),
  (1514, .invokevirtual 226, 3, 199, 3, [(0, 12)]),
  (1517, .istore 6, 2, 6, 0, []),
  (1519, .aload_n 2, 1, 2, 0, []),
  (1520, .invokevirtual 146, 3, 245, 1, [(0, 12)]),
  (1523, .iload 5, 2, 5, 0, []),
  (1525, .if_icmp .eq 5, 3, 1530, 0, []),
  (1528, .iconst 0, 1, 0, 0, [(0, 0)]),
  (1529, .ireturn, 1, 0, 0, []),
  (1530, .iload 5, 2, 5, 0, []),
  (1532, .ifCond .ne 15, 3, 1547, 0, []),
  (1535, .aload_n 3, 1, 3, 0, []),
  (1536, .iconst 0, 1, 0, 0, [(0, 0)]),
  (1537, .laload, 1, 0, 0, []),
  (1538, .iload 6, 2, 6, 0, []),
  (1540, .i2l, 1, 0, 0, []),
  (1541, .lcmp, 1, 0, 0, []),
  (1542, .ifCond .eq 5, 3, 1547, 0, []),
  (1545, .iconst 0, 1, 0, 0, [(0, 0)]),
  (1546, .ireturn, 1, 0, 0, []),
  (1547, .goto 1298, 3, 2845, 0, []),
  (1550, .aload_n 1, 1, 1, 0, []),
  (1551, .aload_n 0, 1, 0, 0, []),
  (1552, .iload 4, 2, 4, 0, []),
  (1554, .iconst 1, 1, 0, 0, [(1, 0)]),
  (1555, .iadd, 1, 0, 0, [])]
def gw_cl22 : List (Nat × ga_E) := [(1556, .iaload, 1, 0, 0, []),
  (1557, .aload_n 3, 1, 3, 0, []),
  (1558, .invokestatic 227, 3, 463, 3, []),
  (1561, .istore 5, 2, 5, 0, []),
  (1563, .aload_n 2, 1, 2, 0, []),
  (1564, .aload_n 0, 1, 0, 0, []),
  (1565, .iload 4, 2, 4, 0, []),
  (1567, .iconst 1, 1, 0, 0, [(1, 0)]),
  (1568, .iadd, 1, 0, 0, []),
  (1569, .iaload, 1, 0, 0, []),
  (1570, .invokevirtual 229, 3, 201, 2, [(0, 12)]),
  (1573, .istore 6, 2, 6, 0, []),
  (1575, .aload_n 2, 1, 2, 0, []),
  (1576, .invokevirtual 146, 3, 245, 1, [(0, 12)]),
  (1579, .iload 5, 2, 5, 0, []),
  (1581, .if_icmp .eq 5, 3, 1586, 0, []),
  (1584, .iconst 0, 1, 0, 0, [(0, 0)]),
  (1585, .ireturn, 1, 0, 0, []),
  (1586, .iload 5, 2, 5, 0, []),
  (1588, .ifCond .ne 15, 3, 1603, 0, []),
  (1591, .aload_n 3, 1, 3, 0, []),
  (1592, .iconst 0, 1, 0, 0, [(0, 0)]),
  (1593, .laload, 1, 0, 0, []),
  (1594, .iload 6, 2, 6, 0, []),
  (1596, .i2l, 1, 0, 0, []),
  (1597, .lcmp, 1, 0, 0, []),
  (1598, .ifCond .eq 5, 3, 1603, 0, []),
  (1601, .iconst 0, 1, 0, 0, [(0, 0)]),
  (1602, .ireturn, 1, 0, 0, []),
  (1603, .goto 1242, 3, 2845, 0, []),
  (1606, .aload_n 1, 1, 1, 0, []),
  (1607, .aload_n 0, 1, 0, 0, []),
  (1608, .iload 4, 2, 4, 0, []),
  (1610, .iconst 1, 1, 0, 0, [(1, 0)]),
  (1611, .iadd, 1, 0, 0, []),
  (1612, .iaload, 1, 0, 0, []),
  (1613, .aload_n 3, 1, 3, 0, []),
  (1614, .invokestatic 230, 3, 464, 3, []),
  (1617, .istore 5, 2, 5, 0, []),
  (1619, .aload_n 2, 1, 2, 0, [])]
def gw_cl23 : List (Nat × ga_E) := [(1620, .aload_n 0, 1, 0, 0, []),
  (1621, .iload 4, 2, 4, 0, []),
  (1623, .iconst 1, 1, 0, 0, [(1, 0)]),
  (1624, .iadd, 1, 0, 0, []),
  (1625, .iaload, 1, 0, 0, []),
  (1626, .invokevirtual 232, 3, 202, 2, [(0, 12)]),
  (1629, .istore 6, 2, 6, 0, []),
  (1631, .aload_n 2, 1, 2, 0, []),
  (1632, .invokevirtual 146, 3, 245, 1, [(0, 12)]),
  (1635, .iload 5, 2, 5, 0, []),
  (1637, .if_icmp .eq 5, 3, 1642, 0, []),
  (1640, .iconst 0, 1, 0, 0, [(0, 0)]),
  (1641, .ireturn, 1, 0, 0, []),
  (1642, .iload 5, 2, 5, 0, []),
  (1644, .ifCond .ne 15, 3, 1659, 0, []),
  (1647, .aload_n 3, 1, 3, 0, []),
  (1648, .iconst 0, 1, 0, 0, [(0, 0)]),
  (1649, .laload, 1, 0, 0, []),
  (1650, .iload 6, 2, 6, 0, []),
  (1652, .i2l, 1, 0, 0, []),
  (1653, .lcmp, 1, 0, 0, []),
  (1654, .ifCond .eq 5, 3, 1659, 0, []),
  (1657, .iconst 0, 1, 0, 0, [(0, 0)]),
  (1658, .ireturn, 1, 0, 0, []),
  (1659, .goto 1186, 3, 2845, 0, []),
  (1662, .aload_n 1, 1, 1, 0, []),
  (1663, .aload_n 0, 1, 0, 0, []),
  (1664, .iload 4, 2, 4, 0, []),
  (1666, .iconst 1, 1, 0, 0, [(1, 0)]),
  (1667, .iadd, 1, 0, 0, []),
  (1668, .iaload, 1, 0, 0, []),
  (1669, .aload_n 3, 1, 3, 0, []),
  (1670, .invokestatic 233, 3, 465, 3, []),
  (1673, .istore 5, 2, 5, 0, []),
  (1675, .aload_n 2, 1, 2, 0, []),
  (1676, .aload_n 0, 1, 0, 0, []),
  (1677, .iload 4, 2, 4, 0, []),
  (1679, .iconst 1, 1, 0, 0, [(1, 0)]),
  (1680, .iadd, 1, 0, 0, []),
  (1681, .iaload, 1, 0, 0, [])]
def gw_cl24 : List (Nat × ga_E) := [(1682, .invokevirtual 235, 3, 203, 2, [(0, 12)]),
  (1685, .istore 6, 2, 6, 0, []),
  (1687, .aload_n 2, 1, 2, 0, []),
  (1688, .invokevirtual 146, 3, 245, 1, [(0, 12)]),
  (1691, .iload 5, 2, 5, 0, []),
  (1693, .if_icmp .eq 5, 3, 1698, 0, []),
  (1696, .iconst 0, 1, 0, 0, [(0, 0)]),
  (1697, .ireturn, 1, 0, 0, []),
  (1698, .iload 5, 2, 5, 0, []),
  (1700, .ifCond .ne 15, 3, 1715, 0, []),
  (1703, .aload_n 3, 1, 3, 0, []),
  (1704, .iconst 0, 1, 0, 0, [(0, 0)]),
  (1705, .laload, 1, 0, 0, []),
  (1706, .iload 6, 2, 6, 0, []),
  (1708, .i2l, 1, 0, 0, []),
  (1709, .lcmp, 1, 0, 0, []),
  (1710, .ifCond .eq 5, 3, 1715, 0, []),
  (1713, .iconst 0, 1, 0, 0, [(0, 0)]),
  (1714, .ireturn, 1, 0, 0, []),
  (1715, .goto 1130, 3, 2845, 0, []),
  (1718, .aload_n 1, 1, 1, 0, []),
  (1719, .aload_n 0, 1, 0, 0, []),
  (1720, .iload 4, 2, 4, 0, []),
  (1722, .iconst 1, 1, 0, 0, [(1, 0)]),
  (1723, .iadd, 1, 0, 0, []),
  (1724, .iaload, 1, 0, 0, []),
  (1725, .aload_n 3, 1, 3, 0, []),
  (1726, .invokestatic 236, 3, 466, 3, []),
  (1729, .istore 5, 2, 5, 0, []),
  (1731, .aload_n 2, 1, 2, 0, []),
  (1732, .aload_n 0, 1, 0, 0, []),
  (1733, .iload 4, 2, 4, 0, []),
  (1735, .iconst 1, 1, 0, 0, [(1, 0)]),
  (1736, .iadd, 1, 0, 0, []),
  (1737, .iaload, 1, 0, 0, []),
  (1738, .invokevirtual 238, 3, 209, 2, [(0, 12)]),
  (1741, .istore 6, 2, 6, 0, []),
  (1743, .aload_n 2, 1, 2, 0, []),
  (1744, .invokevirtual 146, 3, 245, 1, [(0, 12)]),
  (1747, .iload 5, 2, 5, 0, [])]
def gw_cl25 : List (Nat × ga_E) := [(1749, .if_icmp .eq 5, 3, 1754, 0, []),
  (1752, .iconst 0, 1, 0, 0, [(0, 0)]),
  (1753, .ireturn, 1, 0, 0, []),
  (1754, .iload 5, 2, 5, 0, []),
  (1756, .ifCond .ne 15, 3, 1771, 0, []),
  (1759, .aload_n 3, 1, 3, 0, []),
  (1760, .iconst 0, 1, 0, 0, [(0, 0)]),
  (1761, .laload, 1, 0, 0, []),
  (1762, .iload 6, 2, 6, 0, []),
  (1764, .i2l, 1, 0, 0, []),
  (1765, .lcmp, 1, 0, 0, []),
  (1766, .ifCond .eq 5, 3, 1771, 0, []),
  (1769, .iconst 0, 1, 0, 0, [(0, 0)]),
  (1770, .ireturn, 1, 0, 0, []),
  (1771, .goto 1074, 3, 2845, 0, []),
  (1774, .aload_n 1, 1, 1, 0, []),
  (1775, .aload_n 0, 1, 0, 0, []),
  (1776, .iload 4, 2, 4, 0, []),
  (1778, .iconst 1, 1, 0, 0, [(1, 0)]),
  (1779, .iadd, 1, 0, 0, []),
  (1780, .iaload, 1, 0, 0, []),
  (1781, .aload_n 0, 1, 0, 0, []),
  (1782, .iload 4, 2, 4, 0, []),
  (1784, .iconst 2, 1, 0, 0, [(2, 0)]),
  (1785, .iadd, 1, 0, 0, []),
  (1786, .iaload, 1, 0, 0, []),
  (1787, .aload_n 3, 1, 3, 0, []),
  (1788, .invokestatic 239, 3, 467, 4, []),
  (1791, .istore 5, 2, 5, 0, []),
  (1793, .aload_n 2, 1, 2, 0, []),
  (1794, .aload_n 0, 1, 0, 0, []),
  (1795, .iload 4, 2, 4, 0, []),
  (1797, .iconst 1, 1, 0, 0, [(1, 0)]),
  (1798, .iadd, 1, 0, 0, []),
  (1799, .iaload, 1, 0, 0, []),
  (1800, .aload_n 0, 1, 0, 0, []),
  (1801, .iload 4, 2, 4, 0, []),
  (1803, .iconst 2, 1, 0, 0, [(2, 0)]),
  (1804, .iadd, 1, 0, 0, []),
  (1805, .iaload, 1, 0, 0, [])]
def gw_cl26 : List (Nat × ga_E) := [(1806, .invokevirtual 241, 3, 210, 3, [(0, 12)]),
  (1809, .istore 6, 2, 6, 0, []),
  (1811, .aload_n 2, 1, 2, 0, []),
  (1812, .invokevirtual 146, 3, 245, 1, [(0, 12)]),
  (1815, .iload 5, 2, 5, 0, []),
  (1817, .if_icmp .eq 5, 3, 1822, 0, []),
  (1820, .iconst 0, 1, 0, 0, [(0, 0)]),
  (1821, .ireturn, 1, 0, 0, []),
  (1822, .iload 5, 2, 5, 0, []),
  (1824, .ifCond .ne 15, 3, 1839, 0, []),
  (1827, .aload_n 3, 1, 3, 0, []),
  (1828, .iconst 0, 1, 0, 0, [(0, 0)]),
  (1829, .laload, 1, 0, 0, []),
  (1830, .iload 6, 2, 6, 0, []),
  (1832, .i2l, 1, 0, 0, []),
  (1833, .lcmp, 1, 0, 0, []),
  (1834, .ifCond .eq 5, 3, 1839, 0, []),
  (1837, .iconst 0, 1, 0, 0, [(0, 0)]),
  (1838, .ireturn, 1, 0, 0, []),
  (1839, .goto 1006, 3, 2845, 0, []),
  (1842, .aload_n 1, 1, 1, 0, []),
  (1843, .aload_n 0, 1, 0, 0, []),
  (1844, .iload 4, 2, 4, 0, []),
  (1846, .iconst 1, 1, 0, 0, [(1, 0)]),
  (1847, .iadd, 1, 0, 0, []),
  (1848, .iaload, 1, 0, 0, []),
  (1849, .aload_n 0, 1, 0, 0, []),
  (1850, .iload 4, 2, 4, 0, []),
  (1852, .iconst 2, 1, 0, 0, [(2, 0)]),
  (1853, .iadd, 1, 0, 0, []),
  (1854, .iaload, 1, 0, 0, []),
  (1855, .aload_n 3, 1, 3, 0, []),
  (1856, .invokestatic 242, 3, 468, 4, []),
  (1859, .istore 5, 2, 5, 0, []),
  (1861, .aload_n 2, 1, 2, 0, []),
  (1862, .aload_n 0, 1, 0, 0, []),
  (1863, .iload 4, 2, 4, 0, []),
  (1865, .iconst 1, 1, 0, 0, [(1, 0)]),
  (1866, .iadd, 1, 0, 0, []),
  (1867, .iaload, 1, 0, 0, [])]
def gw_cl27 : List (Nat × ga_E) := [(1868, .aload_n 0, 1, 0, 0, []),
  (1869, .iload 4, 2, 4, 0, []),
  (1871, .iconst 2, 1, 0, 0, [(2, 0)]),
  (1872, .iadd, 1, 0, 0, []),
  (1873, .iaload, 1, 0, 0, []),
  (1874, .invokevirtual 244, 3, 212, 3, [(0, 12)]),
  (1877, .istore 6, 2, 6, 0, []),
  (1879, .aload_n 2, 1, 2, 0, []),
  (1880, .invokevirtual 146, 3, 245, 1, [(0, 12)]),
  (1883, .iload 5, 2, 5, 0, []),
  (1885, .if_icmp .eq 5, 3, 1890, 0, []),
  (1888, .iconst 0, 1, 0, 0, [(0, 0)]),
  (1889, .ireturn, 1, 0, 0, []),
  (1890, .iload 5, 2, 5, 0, []),
  (1892, .ifCond .ne 15, 3, 1907, 0, []),
  (1895, .aload_n 3, 1, 3, 0, []),
  (1896, .iconst 0, 1, 0, 0, [(0, 0)]),
  (1897, .laload, 1, 0, 0, []),
  (1898, .iload 6, 2, 6, 0, []),
  (1900, .i2l, 1, 0, 0, []),
  (1901, .lcmp, 1, 0, 0, []),
  (1902, .ifCond .eq 5, 3, 1907, 0, []),
  (1905, .iconst 0, 1, 0, 0, [(0, 0)]),
  (1906, .ireturn, 1, 0, 0, []),
  (1907, .goto 938, 3, 2845, 0, []),
  (1910, .aload_n 1, 1, 1, 0, []),
  (1911, .aload_n 0, 1, 0, 0, []),
  (1912, .iload 4, 2, 4, 0, []),
  (1914, .iconst 1, 1, 0, 0, [(1, 0)]),
  (1915, .iadd, 1, 0, 0, []),
  (1916, .iaload, 1, 0, 0, []),
  (1917, .aload_n 0, 1, 0, 0, []),
  (1918, .iload 4, 2, 4, 0, []),
  (1920, .iconst 2, 1, 0, 0, [(2, 0)]),
  (1921, .iadd, 1, 0, 0, []),
  (1922, .iaload, 1, 0, 0, []),
  (1923, .aload_n 3, 1, 3, 0, []),
  (1924, .invokestatic 245, 3, 469, 4, []),
  (1927, .istore 5, 2, 5, 0, []),
  (1929, .aload_n 2, 1, 2, 0, [])]
def gw_cl28 : List (Nat × ga_E) := [(1930, .aload_n 0, 1, 0, 0, []),
  (1931, .iload 4, 2, 4, 0, []),
  (1933, .iconst 1, 1, 0, 0, [(1, 0)]),
  (1934, .iadd, 1, 0, 0, []),
  (1935, .iaload, 1, 0, 0, []),
  (1936, .aload_n 0, 1, 0, 0, []),
  (1937, .iload 4, 2, 4, 0, []),
  (1939, .iconst 2, 1, 0, 0, [(2, 0)]),
  (1940, .iadd, 1, 0, 0, []),
  (1941, .iaload, 1, 0, 0, []),
  (1942, .invokevirtual 247, 3, 213, 3, [(0, 12)]),
  (1945, .istore 6, 2, 6, 0, []),
  (1947, .aload_n 2, 1, 2, 0, []),
  (1948, .invokevirtual 146, 3, 245, 1, [(0, 12)]),
  (1951, .iload 5, 2, 5, 0, []),
  (1953, .if_icmp .eq 5, 3, 1958, 0, []),
  (1956, .iconst 0, 1, 0, 0, [(0, 0)]),
  (1957, .ireturn, 1, 0, 0, []),
  (1958, .iload 5, 2, 5, 0, []),
  (1960, .ifCond .ne 15, 3, 1975, 0, []),
  (1963, .aload_n 3, 1, 3, 0, []),
  (1964, .iconst 0, 1, 0, 0, [(0, 0)]),
  (1965, .laload, 1, 0, 0, []),
  (1966, .iload 6, 2, 6, 0, []),
  (1968, .i2l, 1, 0, 0, []),
  (1969, .lcmp, 1, 0, 0, []),
  (1970, .ifCond .eq 5, 3, 1975, 0, []),
  (1973, .iconst 0, 1, 0, 0, [(0, 0)]),
  (1974, .ireturn, 1, 0, 0, []),
  (1975, .goto 870, 3, 2845, 0, []),
  (1978, .aload_n 1, 1, 1, 0, []),
  (1979, .aload_n 0, 1, 0, 0, []),
  (1980, .iload 4, 2, 4, 0, []),
  (1982, .iconst 1, 1, 0, 0, [(1, 0)]),
  (1983, .iadd, 1, 0, 0, []),
  (1984, .iaload, 1, 0, 0, []),
  (1985, .aload_n 0, 1, 0, 0, []),
  (1986, .iload 4, 2, 4, 0, []),
  (1988, .iconst 2, 1, 0, 0, [(2, 0)]),
  (1989, .iadd, 1, 0, 0, [])]
def gw_cl29 : List (Nat × ga_E) := [(1990, .iaload, 1, 0, 0, []),
  (1991, .aload_n 3, 1, 3, 0, []),
  (1992, .invokestatic 248, 3, 470, 4, []),
  (1995, .istore 5, 2, 5, 0, []),
  (1997, .aload_n 2, 1, 2, 0, []),
  (1998, .aload_n 0, 1, 0, 0, []),
  (1999, .iload 4, 2, 4, 0, []),
  (2001, .iconst 1, 1, 0, 0, [(1, 0)]),
  (2002, .iadd, 1, 0, 0, []),
  (2003, .iaload, 1, 0, 0, []),
  (2004, .aload_n 0, 1, 0, 0, []),
  (2005, .iload 4, 2, 4, 0, []),
  (2007, .iconst 2, 1, 0, 0, [(2, 0)]),
  (2008, .iadd, 1, 0, 0, []),
  (2009, .iaload, 1, 0, 0, []),
  (2010, .invokevirtual 250, 3, 214, 3, [(0, 12)]),
  (2013, .istore 6, 2, 6, 0, []),
  (2015, .aload_n 2, 1, 2, 0, []),
  (2016, .invokevirtual 146, 3, 245, 1, [(0, 12)]),
  (2019, .iload 5, 2, 5, 0, []),
  (2021, .if_icmp .eq 5, 3, 2026, 0, []),
  (2024, .iconst 0, 1, 0, 0, [(0, 0)]),
  (2025, .ireturn, 1, 0, 0, []),
  (2026, .iload 5, 2, 5, 0, []),
  (2028, .ifCond .ne 15, 3, 2043, 0, []),
  (2031, .aload_n 3, 1, 3, 0, []),
  (2032, .iconst 0, 1, 0, 0, [(0, 0)]),
  (2033, .laload, 1, 0, 0, []),
  (2034, .iload 6, 2, 6, 0, []),
  (2036, .i2l, 1, 0, 0, []),
  (2037, .lcmp, 1, 0, 0, []),
  (2038, .ifCond .eq 5, 3, 2043, 0, []),
  (2041, .iconst 0, 1, 0, 0, [(0, 0)]),
  (2042, .ireturn, 1, 0, 0, []),
  (2043, .goto 802, 3, 2845, 0, []),
  (2046, .aload_n 1, 1, 1, 0, []),
  (2047, .aload_n 0, 1, 0, 0, []),
  (2048, .iload 4, 2, 4, 0, []),
  (2050, .iconst 1, 1, 0, 0, [(1, 0)]),
  (2051, .iadd, 1, 0, 0, [])]
def gw_cl30 : List (Nat × ga_E) := [(2052, .iaload, 1, 0, 0, []),
  (2053, .aload_n 0, 1, 0, 0, []),
  (2054, .iload 4, 2, 4, 0, []),
  (2056, .iconst 2, 1, 0, 0, [(2, 0)]),
  (2057, .iadd, 1, 0, 0, []),
  (2058, .iaload, 1, 0, 0, []),
  (2059, .aload_n 3, 1, 3, 0, []),
  (2060, .invokestatic 251, 3, 471, 4, []),
  (2063, .istore 5, 2, 5, 0, []),
  (2065, .aload_n 2, 1, 2, 0, []),
  (2066, .aload_n 0, 1, 0, 0, []),
  (2067, .iload 4, 2, 4, 0, []),
  (2069, .iconst 1, 1, 0, 0, [(1, 0)]),
  (2070, .iadd, 1, 0, 0, []),
  (2071, .iaload, 1, 0, 0, []),
  (2072, .aload_n 0, 1, 0, 0, []),
  (2073, .iload 4, 2, 4, 0, []),
  (2075, .iconst 2, 1, 0, 0, [(2, 0)]),
  (2076, .iadd, 1, 0, 0, []),
  (2077, .iaload, 1, 0, 0, []),
  (2078, .invokevirtual 253, 3, 216, 3, [(0, 12)]),
  (2081, .istore 6, 2, 6, 0, []),
  (2083, .aload_n 2, 1, 2, 0, []),
  (2084, .invokevirtual 146, 3, 245, 1, [(0, 12)]),
  (2087, .iload 5, 2, 5, 0, []),
  (2089, .if_icmp .eq 5, 3, 2094, 0, []),
  (2092, .iconst 0, 1, 0, 0, [(0, 0)]),
  (2093, .ireturn, 1, 0, 0, []),
  (2094, .iload 5, 2, 5, 0, []),
  (2096, .ifCond .ne 15, 3, 2111, 0, []),
  (2099, .aload_n 3, 1, 3, 0, []),
  (2100, .iconst 0, 1, 0, 0, [(0, 0)]),
  (2101, .laload, 1, 0, 0, []),
  (2102, .iload 6, 2, 6, 0, []),
  (2104, .i2l, 1, 0, 0, []),
  (2105, .lcmp, 1, 0, 0, []),
  (2106, .ifCond .eq 5, 3, 2111, 0, []),
  (2109, .iconst 0, 1, 0, 0, [(0, 0)]),
  (2110, .ireturn, 1, 0, 0, []),
  (2111, .goto 734, 3, 2845, 0, [])]
def gw_cl31 : List (Nat × ga_E) := [(2114, .aload_n 1, 1, 1, 0, []),
  (2115, .aload_n 0, 1, 0, 0, []),
  (2116, .iload 4, 2, 4, 0, []),
  (2118, .iconst 1, 1, 0, 0, [(1, 0)]),
  (2119, .iadd, 1, 0, 0, []),
  (2120, .iaload, 1, 0, 0, []),
  (2121, .aload_n 0, 1, 0, 0, []),
  (2122, .iload 4, 2, 4, 0, []),
  (2124, .iconst 2, 1, 0, 0, [(2, 0)]),
  (2125, .iadd, 1, 0, 0, []),
  (2126, .iaload, 1, 0, 0, []),
  (2127, .aload_n 3, 1, 3, 0, []),
  (2128, .invokestatic 254, 3, 472, 4, []),
  (2131, .istore 5, 2, 5, 0, []),
  (2133, .aload_n 2, 1, 2, 0, []),
  (2134, .aload_n 0, 1, 0, 0, []),
  (2135, .iload 4, 2, 4, 0, []),
  (2137, .iconst 1, 1, 0, 0, [(1, 0)]),
  (2138, .iadd, 1, 0, 0, []),
  (2139, .iaload, 1, 0, 0, []),
  (2140, .aload_n 0, 1, 0, 0, []),
  (2141, .iload 4, 2, 4, 0, []),
  (2143, .iconst 2, 1, 0, 0, [(2, 0)]),
  (2144, .iadd, 1, 0, 0, []),
  (2145, .iaload, 1, 0, 0, []),
  (2146, .invokevirtual 256, 3, 217, 3, [(0, 12)]),
  (2149, .istore 6, 2, 6, 0, []),
  (2151, .aload_n 2, 1, 2, 0, []),
  (2152, .invokevirtual 146, 3, 245, 1, [(0, 12)]),
  (2155, .iload 5, 2, 5, 0, []),
  (2157, .if_icmp .eq 5, 3, 2162, 0, []),
  (2160, .iconst 0, 1, 0, 0, [(0, 0)]),
  (2161, .ireturn, 1, 0, 0, []),
  (2162, .iload 5, 2, 5, 0, []),
  (2164, .ifCond .ne 15, 3, 2179, 0, []),
  (2167, .aload_n 3, 1, 3, 0, []),
  (2168, .iconst 0, 1, 0, 0, [(0, 0)]),
  (2169, .laload, 1, 0, 0, []),
  (2170, .iload 6, 2, 6, 0, []),
  (2172, .i2l, 1, 0, 0, [])]
def gw_cl32 : List (Nat × ga_E) := [(2173, .lcmp, 1, 0, 0, []),
  (2174, .ifCond .eq 5, 3, 2179, 0, []),
  (2177, .iconst 0, 1, 0, 0, [(0, 0)]),
  (2178, .ireturn, 1, 0, 0, []),
  (2179, .goto 666, 3, 2845, 0, []),
  (2182, .aload_n 1, 1, 1, 0, []),
  (2183, .aload_n 0, 1, 0, 0, []),
  (2184, .iload 4, 2, 4, 0, []),
  (2186, .iconst 1, 1, 0, 0, [(1, 0)]),
  (2187, .iadd, 1, 0, 0, []),
  (2188, .iaload, 1, 0, 0, []),
  (2189, .aload_n 0, 1, 0, 0, []),
  (2190, .iload 4, 2, 4, 0, []),
  (2192, .iconst 2, 1, 0, 0, [(2, 0)]),
  (2193, .iadd, 1, 0, 0, []),
  (2194, .iaload, 1, 0, 0, []),
  (2195, .aload_n 3, 1, 3, 0, []),
  (2196, .invokestatic 257, 3, 473, 4, []),
  (2199, .istore 5, 2, 5, 0, []),
  (2201, .aload_n 2, 1, 2, 0, []),
  (2202, .aload_n 0, 1, 0, 0, []),
  (2203, .iload 4, 2, 4, 0, []),
  (2205, .iconst 1, 1, 0, 0, [(1, 0)]),
  (2206, .iadd, 1, 0, 0, []),
  (2207, .iaload, 1, 0, 0, []),
  (2208, .aload_n 0, 1, 0, 0, []),
  (2209, .iload 4, 2, 4, 0, []),
  (2211, .iconst 2, 1, 0, 0, [(2, 0)]),
  (2212, .iadd, 1, 0, 0, []),
  (2213, .iaload, 1, 0, 0, []),
  (2214, .invokevirtual 259, 3, 218, 3, [(0, 12)]),
  (2217, .istore 6, 2, 6, 0, []),
  (2219, .aload_n 2, 1, 2, 0, []),
  (2220, .invokevirtual 146, 3, 245, 1, [(0, 12)]),
  (2223, .iload 5, 2, 5, 0, []),
  (2225, .if_icmp .eq 5, 3, 2230, 0, []),
  (2228, .iconst 0, 1, 0, 0, [(0, 0)]),
  (2229, .ireturn, 1, 0, 0, []),
  (2230, .iload 5, 2, 5, 0, []),
  (2232, .ifCond .ne 15, 3, 2247, 0, [])]
def gw_cl33 : List (Nat × ga_E) := [(2235, .aload_n 3, 1, 3, 0, []),
  (2236, .iconst 0, 1, 0, 0, [(0, 0)]),
  (2237, .laload, 1, 0, 0, []),
  (2238, .iload 6, 2, 6, 0, []),
  (2240, .i2l, 1, 0, 0, []),
  (2241, .lcmp, 1, 0, 0, []),
  (2242, .ifCond .eq 5, 3, 2247, 0, []),
  (2245, .iconst 0, 1, 0, 0, [(0, 0)]),
  (2246, .ireturn, 1, 0, 0, []),
  (2247, .goto 598, 3, 2845, 0, []),
  (2250, .aload_n 1, 1, 1, 0, []),
  (2251, .aload_n 0, 1, 0, 0, []),
  (2252, .iload 4, 2, 4, 0, []),
  (2254, .iconst 1, 1, 0, 0, [(1, 0)]),
  (2255, .iadd, 1, 0, 0, []),
  (2256, .iaload, 1, 0, 0, []),
  (2257, .aload_n 3, 1, 3, 0, []),
  (2258, .invokestatic 260, 3, 474, 3, []),
  (2261, .istore 5, 2, 5, 0, []),
  (2263, .aload_n 2, 1, 2, 0, []),
  (2264, .aload_n 0, 1, 0, 0, []),
  (2265, .iload 4, 2, 4, 0, []),
  (2267, .iconst 1, 1, 0, 0, [(1, 0)]),
  (2268, .iadd, 1, 0, 0, []),
  (2269, .iaload, 1, 0, 0, []),
  (2270, .invokevirtual 262, 3, 219, 2, [(0, 12)]),
  (2273, .istore 6, 2, 6, 0, []),
  (2275, .aload_n 2, 1, 2, 0, []),
  (2276, .invokevirtual 146, 3, 245, 1, [(0, 12)]),
  (2279, .iload 5, 2, 5, 0, []),
  (2281, .if_icmp .eq 5, 3, 2286, 0, []),
  (2284, .iconst 0, 1, 0, 0, [(0, 0)]),
  (2285, .ireturn, 1, 0, 0, []),
  (2286, .iload 5, 2, 5, 0, []),
  (2288, .ifCond .ne 15, 3, 2303, 0, []),
  (2291, .aload_n 3, 1, 3, 0, []),
  (2292, .iconst 0, 1, 0, 0, [(0, 0)]),
  (2293, .laload, 1, 0, 0, []),
  (2294, .iload 6, 2, 6, 0, []),
  (2296, .i2l, 1, 0, 0, [])]
def gw_cl34 : List (Nat × ga_E) := [(2297, .lcmp, 1, 0, 0, []),
  (2298, .ifCond .eq 5, 3, 2303, 0, []),
  (2301, .iconst 0, 1, 0, 0, [(0, 0)]),
  (2302, .ireturn, 1, 0, 0, []),
  (2303, .goto 542, 3, 2845, 0, []),
  (2306, .aload_n 1, 1, 1, 0, []),
  (2307, .aload_n 0, 1, 0, 0, []),
  (2308, .iload 4, 2, 4, 0, []),
  (2310, .iconst 1, 1, 0, 0, [(1, 0)]),
  (2311, .iadd, 1, 0, 0, []),
  (2312, .iaload, 1, 0, 0, []),
  (2313, .aload_n 0, 1, 0, 0, []),
  (2314, .iload 4, 2, 4, 0, []),
  (2316, .iconst 2, 1, 0, 0, [(2, 0)]),
  (2317, .iadd, 1, 0, 0, []),
  (2318, .iaload, 1, 0, 0, []),
  (2319, .aload_n 3, 1, 3, 0, []),
  (2320, .invokestatic 263, 3, 475, 4, []),
  (2323, .istore 5, 2, 5, 0, []),
  (2325, .aload_n 2, 1, 2, 0, []),
  (2326, .aload_n 0, 1, 0, 0, []),
  (2327, .iload 4, 2, 4, 0, []),
  (2329, .iconst 1, 1, 0, 0, [(1, 0)]),
  (2330, .iadd, 1, 0, 0, []),
  (2331, .iaload, 1, 0, 0, []),
  (2332, .aload_n 0, 1, 0, 0, []),
  (2333, .iload 4, 2, 4, 0, []),
  (2335, .iconst 2, 1, 0, 0, [(2, 0)]),
  (2336, .iadd, 1, 0, 0, []),
  (2337, .iaload, 1, 0, 0, []),
  (2338, .invokevirtual 265, 3, 220, 3, [(0, 12)]),
  (2341, .istore 6, 2, 6, 0, []),
  (2343, .aload_n 2, 1, 2, 0, []),
  (2344, .invokevirtual 146, 3, 245, 1, [(0, 12)]),
  (2347, .iload 5, 2, 5, 0, []),
  (2349, .if_icmp .eq 5, 3, 2354, 0, []),
  (2352, .iconst 0, 1, 0, 0, [(0, 0)]),
  (2353, .ireturn, 1, 0, 0, []),
  (2354, .iload 5, 2, 5, 0, []),
  (2356, .ifCond .ne 15, 3, 2371, 0, [])]
def gw_cl35 : List (Nat × ga_E) := [(2359, .aload_n 3, 1, 3, 0, []),
  (2360, .iconst 0, 1, 0, 0, [(0, 0)]),
  (2361, .laload, 1, 0, 0, []),
  (2362, .iload 6, 2, 6, 0, []),
  (2364, .i2l, 1, 0, 0, []),
  (2365, .lcmp, 1, 0, 0, []),
  (2366, .ifCond .eq 5, 3, 2371, 0, []),
  (2369, .iconst 0, 1, 0, 0, [(0, 0)]),
  (2370, .ireturn, 1, 0, 0, []),
  (2371, .goto 474, 3, 2845, 0, []),
  (2374, .aload_n 1, 1, 1, 0, []),
  (2375, .aload_n 0, 1, 0, 0, []),
  (2376, .iload 4, 2, 4, 0, []),
  (2378, .iconst 1, 1, 0, 0, [(1, 0)]),
  (2379, .iadd, 1, 0, 0, []),
  (2380, .iaload, 1, 0, 0, []),
  (2381, .aload_n 3, 1, 3, 0, []),
  (2382, .invokestatic 266, 3, 476, 3, []),
  (2385, .istore 5, 2, 5, 0, []),
  (2387, .aload_n 2, 1, 2, 0, []),
  (2388, .aload_n 0, 1, 0, 0, []),
  (2389, .iload 4, 2, 4, 0, []),
  (2391, .iconst 1, 1, 0, 0, [(1, 0)]),
  (2392, .iadd, 1, 0, 0, []),
  (2393, .iaload, 1, 0, 0, []),
  (2394, .invokevirtual 268, 3, 222, 2, [(0, 12)]),
  (2397, .istore 6, 2, 6, 0, []),
  (2399, .aload_n 2, 1, 2, 0, []),
  (2400, .invokevirtual 146, 3, 245, 1, [(0, 12)]),
  (2403, .iload 5, 2, 5, 0, []),
  (2405, .if_icmp .eq 5, 3, 2410, 0, []),
  (2408, .iconst 0, 1, 0, 0, [(0, 0)]),
  (2409, .ireturn, 1, 0, 0, []),
  (2410, .iload 5, 2, 5, 0, []),
  (2412, .ifCond .ne 15, 3, 2427, 0, []),
  (2415, .aload_n 3, 1, 3, 0, []),
  (2416, .iconst 0, 1, 0, 0, [(0, 0)]),
  (2417, .laload, 1, 0, 0, []),
  (2418, .iload 6, 2, 6, 0, []),
  (2420, .i2l, 1, 0, 0, [])]
def gw_cl36 : List (Nat × ga_E) := [(2421, .lcmp, 1, 0, 0, []),
  (2422, .ifCond .eq 5, 3, 2427, 0, []),
  (2425, .iconst 0, 1, 0, 0, [(0, 0)]),
  (2426, .ireturn, 1, 0, 0, []),
  (2427, .goto 418, 3, 2845, 0, []),
  (2430, .aload_n 1, 1, 1, 0, []),
  (2431, .aload_n 0, 1, 0, 0, []),
  (2432, .iload 4, 2, 4, 0, []),
  (2434, .iconst 1, 1, 0, 0, [(1, 0)]),
  (2435, .iadd, 1, 0, 0, []),
  (2436, .iaload, 1, 0, 0, []),
  (2437, .aload_n 3, 1, 3, 0, []),
  (2438, .invokestatic 269, 3, 477, 3, []),
  (2441, .istore 5, 2, 5, 0, []),
  (2443, .aload_n 2, 1, 2, 0, []),
  (2444, .aload_n 0, 1, 0, 0, []),
  (2445, .iload 4, 2, 4, 0, []),
  (2447, .iconst 1, 1, 0, 0, [(1, 0)]),
  (2448, .iadd, 1, 0, 0, []),
  (2449, .iaload, 1, 0, 0, []),
  (2450, .invokevirtual 271, 3, 223, 2, [(0, 12)]),
  (2453, .istore 6, 2, 6, 0, []),
  (2455, .aload_n 2, 1, 2, 0, []),
  (2456, .invokevirtual 146, 3, 245, 1, [(0, 12)]),
  (2459, .iload 5, 2, 5, 0, []),
  (2461, .if_icmp .eq 5, 3, 2466, 0, []),
  (2464, .iconst 0, 1, 0, 0, [(0, 0)]),
  (2465, .ireturn, 1, 0, 0, []),
  (2466, .iload 5, 2, 5, 0, []),
  (2468, .ifCond .ne 15, 3, 2483, 0, []),
  (2471, .aload_n 3, 1, 3, 0, []),
  (2472, .iconst 0, 1, 0, 0, [(0, 0)]),
  (2473, .laload, 1, 0, 0, []),
  (2474, .iload 6, 2, 6, 0, []),
  (2476, .i2l, 1, 0, 0, []),
  (2477, .lcmp, 1, 0, 0, []),
  (2478, .ifCond .eq 5, 3, 2483, 0, []),
  (2481, .iconst 0, 1, 0, 0, [(0, 0)]),
  (2482, .ireturn, 1, 0, 0, []),
  (2483, .goto 362, 3, 2845, 0, [])]
def gw_cl37 : List (Nat × ga_E) := [(2486, .aload_n 1, 1, 1, 0, []),
  (2487, .aload_n 0, 1, 0, 0, []),
  (2488, .iload 4, 2, 4, 0, []),
  (2490, .iconst 1, 1, 0, 0, [(1, 0)]),
  (2491, .iadd, 1, 0, 0, []),
  (2492, .iaload, 1, 0, 0, []),
  (2493, .aload_n 0, 1, 0, 0, []),
  (2494, .iload 4, 2, 4, 0, []),
  (2496, .iconst 2, 1, 0, 0, [(2, 0)]),
  (2497, .iadd, 1, 0, 0, []),
  (2498, .iaload, 1, 0, 0, []),
  (2499, .aload_n 3, 1, 3, 0, []),
  (2500, .invokestatic 272, 3, 478, 4, []),
  (2503, .istore 5, 2, 5, 0, []),
  (2505, .aload_n 2, 1, 2, 0, []),
  (2506, .aload_n 0, 1, 0, 0, []),
  (2507, .iload 4, 2, 4, 0, []),
  (2509, .iconst 1, 1, 0, 0, [(1, 0)]),
  (2510, .iadd, 1, 0, 0, []),
  (2511, .iaload, 1, 0, 0, []),
  (2512, .aload_n 0, 1, 0, 0, []),
  (2513, .iload 4, 2, 4, 0, []),
  (2515, .iconst 2, 1, 0, 0, [(2, 0)]),
  (2516, .iadd, 1, 0, 0, []),
  (2517, .iaload, 1, 0, 0, []),
  (2518, .invokevirtual 274, 3, 226, 3, [(0, 12)]),
  (2521, .istore 6, 2, 6, 0, []),
  (2523, .aload_n 2, 1, 2, 0, []),
  (2524, .invokevirtual 146, 3, 245, 1, [(0, 12)]),
  (2527, .iload 5, 2, 5, 0, []),
  (2529, .if_icmp .eq 5, 3, 2534, 0, []),
  (2532, .iconst 0, 1, 0, 0, [(0, 0)]),
  (2533, .ireturn, 1, 0, 0, []),
  (2534, .iload 5, 2, 5, 0, []),
  (2536, .ifCond .ne 15, 3, 2551, 0, []),
  (2539, .aload_n 3, 1, 3, 0, []),
  (2540, .iconst 0, 1, 0, 0, [(0, 0)]),
  (2541, .laload, 1, 0, 0, []),
  (2542, .iload 6, 2, 6, 0, []),
  (2544, .i2l, 1, 0, 0, [])]
def gw_cl38 : List (Nat × ga_E) := [(2545, .lcmp, 1, 0, 0, []),
  (2546, .ifCond .eq 5, 3, 2551, 0, []),
  (2549, .iconst 0, 1, 0, 0, [(0, 0)]),
  (2550, .ireturn, 1, 0, 0, []),
  (2551, .goto 294, 3, 2845, 0, []),
  (2554, .aload_n 1, 1, 1, 0, []),
  (2555, .aload_n 0, 1, 0, 0, []),
  (2556, .iload 4, 2, 4, 0, []),
  (2558, .iconst 1, 1, 0, 0, [(1, 0)]),
  (2559, .iadd, 1, 0, 0, []),
  (2560, .iaload, 1, 0, 0, []),
  (2561, .aload_n 0, 1, 0, 0, []),
  (2562, .iload 4, 2, 4, 0, []),
  (2564, .iconst 2, 1, 0, 0, [(2, 0)]),
  (2565, .iadd, 1, 0, 0, []),
  (2566, .iaload, 1, 0, 0, []),
  (2567, .aload_n 3, 1, 3, 0, []),
  (2568, .invokestatic 275, 3, 479, 4, []),
  (2571, .istore 5, 2, 5, 0, []),
  (2573, .aload_n 2, 1, 2, 0, []),
  (2574, .aload_n 0, 1, 0, 0, []),
  (2575, .iload 4, 2, 4, 0, []),
  (2577, .iconst 1, 1, 0, 0, [(1, 0)]),
  (2578, .iadd, 1, 0, 0, []),
  (2579, .iaload, 1, 0, 0, []),
  (2580, .aload_n 0, 1, 0, 0, []),
  (2581, .iload 4, 2, 4, 0, []),
  (2583, .iconst 2, 1, 0, 0, [(2, 0)]),
  (2584, .iadd, 1, 0, 0, []),
  (2585, .iaload, 1, 0, 0, []),
  (2586, .invokevirtual 277, 3, 227, 3, [(0, 12)]),
  (2589, .istore 6, 2, 6, 0, []),
  (2591, .aload_n 2, 1, 2, 0, []),
  (2592, .invokevirtual 146, 3, 245, 1, [(0, 12)]),
  (2595, .iload 5, 2, 5, 0, []),
  (2597, .if_icmp .eq 5, 3, 2602, 0, []),
  (2600, .iconst 0, 1, 0, 0, [(0, 0)]),
  (2601, .ireturn, 1, 0, 0, []),
  (2602, .iload 5, 2, 5, 0, []),
  (2604, .ifCond .ne 15, 3, 2619, 0, [])]
def gw_cl39 : List (Nat × ga_E) := [(2607, .aload_n 3, 1, 3, 0, []),
  (2608, .iconst 0, 1, 0, 0, [(0, 0)]),
  (2609, .laload, 1, 0, 0, []),
  (2610, .iload 6, 2, 6, 0, []),
  (2612, .i2l, 1, 0, 0, []),
  (2613, .lcmp, 1, 0, 0, []),
  (2614, .ifCond .eq 5, 3, 2619, 0, []),
  (2617, .iconst 0, 1, 0, 0, [(0, 0)]),
  (2618, .ireturn, 1, 0, 0, []),
  (2619, .goto 226, 3, 2845, 0, []),
  (2622, .aload_n 1, 1, 1, 0, []),
  (2623, .invokevirtual 278, 3, 229, 1, [(0, 11)]),
  (2626, .aload_n 2, 1, 2, 0, []),
  (2627, .invokevirtual 281, 3, 230, 1, [(0, 12)]),
  (2630, .if_icmp .eq 215, 3, 2845, 0, []),
  (2633, .iconst 0, 1, 0, 0, [(0, 0)]),
  (2634, .ireturn, 1, 0, 0, []),
  (2635, .aload_n 1, 1, 1, 0, []),
  (2636, .invokevirtual 282, 3, 232, 1, [(0, 11)]),
  (2639, .dstore 5, 2, 5, 0, []),
  (2641, .aload_n 2, 1, 2, 0, []),
  (2642, .invokevirtual 286, 3, 233, 1, [(0, 12)]),
  (2645, .dstore 7, 2, 7, 0, []),
  (2647, .dload 5, 2, 5, 0, []),
  (2649, .dload 7, 2, 7, 0, []),
  (2651, .dcmp .l, 1, 0, 0, []),
  (2652, .ifCond .eq 21, 3, 2673, 0, []),
  (2655, .dload 5, 2, 5, 0, []),
  (2657, .dload 5, 2, 5, 0, []),
  (2659, .dcmp .l, 1, 0, 0, []),
  (2660, .ifCond .eq 11, 3, 2671, 0, []),
  (2663, .dload 7, 2, 7, 0, []),
  (2665, .dload 7, 2, 7, 0, []),
  (2667, .dcmp .l, 1, 0, 0, []),
  (2668, .ifCond .ne 5, 3, 2673, 0, []),
  (2671, .iconst 0, 1, 0, 0, [(0, 0)]),
  (2672, .ireturn, 1, 0, 0, []),
  (2673, .goto 172, 3, 2845, 0, []),
  (2676, .aload_n 1, 1, 1, 0, []),
  (2677, .aload_n 0, 1, 0, 0, [])]
def gw_cl40 : List (Nat × ga_E) := [(2678, .iload 4, 2, 4, 0, []),
  (2680, .iconst 1, 1, 0, 0, [(1, 0)]),
  (2681, .iadd, 1, 0, 0, []),
  (2682, .iaload, 1, 0, 0, []),
  (2683, .aload_n 3, 1, 3, 0, []),
  (2684, .invokestatic 287, 3, 480, 3, []),
  (2687, .istore 5, 2, 5, 0, []),
  (2689, .aload_n 2, 1, 2, 0, []),
  (2690, .aload_n 0, 1, 0, 0, []),
  (2691, .iload 4, 2, 4, 0, []),
  (2693, .iconst 1, 1, 0, 0, [(1, 0)]),
  (2694, .iadd, 1, 0, 0, []),
  (2695, .iaload, 1, 0, 0, []),
  (2696, .invokevirtual 289, 3, 239, 2, [(0, 12)]),
  (2699, .istore 6, 2, 6, 0, []),
  (2701, .aload_n 2, 1, 2, 0, []),
  (2702, .invokevirtual 146, 3, 245, 1, [(0, 12)]),
  (2705, .iload 5, 2, 5, 0, []),
  (2707, .if_icmp .eq 5, 3, 2712, 0, []),
  (2710, .iconst 0, 1, 0, 0, [(0, 0)]),
  (2711, .ireturn, 1, 0, 0, []),
  (2712, .iload 5, 2, 5, 0, []),
  (2714, .ifCond .ne 15, 3, 2729, 0, []),
  (2717, .aload_n 3, 1, 3, 0, []),
  (2718, .iconst 0, 1, 0, 0, [(0, 0)]),
  (2719, .laload, 1, 0, 0, []),
  (2720, .iload 6, 2, 6, 0, []),
  (2722, .i2l, 1, 0, 0, []),
  (2723, .lcmp, 1, 0, 0, []),
  (2724, .ifCond .eq 5, 3, 2729, 0, []),
  (2727, .iconst 0, 1, 0, 0, [(0, 0)]),
  (2728, .ireturn, 1, 0, 0, []),
  (2729, .goto 116, 3, 2845, 0, []),
  (2732, .aload_n 1, 1, 1, 0, []),
  (2733, .aload_n 0, 1, 0, 0, []),
  (2734, .iload 4, 2, 4, 0, []),
  (2736, .iconst 1, 1, 0, 0, [(1, 0)]),
  (2737, .iadd, 1, 0, 0, []),
  (2738, .iaload, 1, 0, 0, []),
  (2739, .aload_n 3, 1, 3, 0, [])]
def gw_cl41 : List (Nat × ga_E) := [(2740, .invokestatic 290, 3, 481, 3, []),
  (2743, .istore 5, 2, 5, 0, []),
  (2745, .aload_n 2, 1, 2, 0, []),
  (2746, .aload_n 0, 1, 0, 0, []),
  (2747, .iload 4, 2, 4, 0, []),
  (2749, .iconst 1, 1, 0, 0, [(1, 0)]),
  (2750, .iadd, 1, 0, 0, []),
  (2751, .iaload, 1, 0, 0, []),
  (2752, .invokevirtual 292, 3, 240, 2, [(0, 12)]),
  (2755, .istore 6, 2, 6, 0, []),
  (2757, .aload_n 2, 1, 2, 0, []),
  (2758, .invokevirtual 146, 3, 245, 1, [(0, 12)]),
  (2761, .iload 5, 2, 5, 0, []),
  (2763, .if_icmp .eq 5, 3, 2768, 0, []),
  (2766, .iconst 0, 1, 0, 0, [(0, 0)]),
  (2767, .ireturn, 1, 0, 0, []),
  (2768, .iload 5, 2, 5, 0, []),
  (2770, .ifCond .ne 15, 3, 2785, 0, []),
  (2773, .aload_n 3, 1, 3, 0, []),
  (2774, .iconst 0, 1, 0, 0, [(0, 0)]),
  (2775, .laload, 1, 0, 0, []),
  (2776, .iload 6, 2, 6, 0, []),
  (2778, .i2l, 1, 0, 0, []),
  (2779, .lcmp, 1, 0, 0, []),
  (2780, .ifCond .eq 5, 3, 2785, 0, []),
  (2783, .iconst 0, 1, 0, 0, [(0, 0)]),
  (2784, .ireturn, 1, 0, 0, []),
  (2785, .goto 60, 3, 2845, 0, []),
  (2788, .aload_n 1, 1, 1, 0, []),
  (2789, .aload_n 3, 1, 3, 0, []),
  (2790, .invokestatic 293, 3, 482, 2, []),
  (2793, .istore 5, 2, 5, 0, []),
  (2795, .aload_n 2, 1, 2, 0, []),
  (2796, .invokevirtual 296, 3, 242, 1, [(0, 12)]),
  (2799, .istore 6, 2, 6, 0, []),
  (2801, .aload_n 2, 1, 2, 0, []),
  (2802, .invokevirtual 146, 3, 245, 1, [(0, 12)]),
  (2805, .iload 5, 2, 5, 0, []),
  (2807, .if_icmp .eq 5, 3, 2812, 0, []),
  (2810, .iconst 0, 1, 0, 0, [(0, 0)])]
def gw_cl42 : List (Nat × ga_E) := [(2811, .ireturn, 1, 0, 0, []),
  (2812, .iload 5, 2, 5, 0, []),
  (2814, .ifCond .ne 15, 3, 2829, 0, []),
  (2817, .aload_n 3, 1, 3, 0, []),
  (2818, .iconst 0, 1, 0, 0, [(0, 0)]),
  (2819, .laload, 1, 0, 0, []),
  (2820, .iload 6, 2, 6, 0, []),
  (2822, .i2l, 1, 0, 0, []),
  (2823, .lcmp, 1, 0, 0, []),
  (2824, .ifCond .eq 5, 3, 2829, 0, []),
  (2827, .iconst 0, 1, 0, 0, [(0, 0)]),
  (2828, .ireturn, 1, 0, 0, []),
  (2829, .goto 16, 3, 2845, 0, []),
  (2832, .aload_n 1, 1, 1, 0, []),
  (2833, .invokevirtual 297, 3, 243, 1, [(0, 11)]),
  (2836, .aload_n 2, 1, 2, 0, []),
  (2837, .invokevirtual 300, 3, 244, 1, [(0, 12)]),
  (2840, .if_icmp .eq 5, 3, 2845, 0, []),
  (2843, .iconst 0, 1, 0, 0, [(0, 0)]),
  (2844, .ireturn, 1, 0, 0, []),
  (2845, .iinc 4 6, 3, 4, 0, [(6, 0)]),
  (2848, .goto (-2825), 3, 23, 0, []),
  (2851, .iconst 1, 1, 0, 0, [(1, 0)]),
  (2852, .ireturn, 1, 0, 0, [])]
def gw_code : Nat → Option ga_E := fun pc => bif Nat.blt pc 1494 then (bif Nat.blt pc 820 then (bif Nat.blt pc 506 then (bif Nat.blt pc 312 then (bif Nat.blt pc 262 then (ga_lk gw_cl0 pc) else (ga_lk gw_cl1 pc)) else (bif Nat.blt pc 379 then (ga_lk gw_cl2 pc) else (bif Nat.blt pc 451 then (ga_lk gw_cl3 pc) else (ga_lk gw_cl4 pc)))) else (bif Nat.blt pc 631 then (bif Nat.blt pc 571 then (ga_lk gw_cl5 pc) else (ga_lk gw_cl6 pc)) else (bif Nat.blt pc 693 then (ga_lk gw_cl7 pc) else (bif Nat.blt pc 759 then (ga_lk gw_cl8 pc) else (ga_lk gw_cl9 pc))))) else (bif Nat.blt pc 1124 then (bif Nat.blt pc 940 then (bif Nat.blt pc 880 then (ga_lk gw_cl10 pc) else (ga_lk gw_cl11 pc)) else (bif Nat.blt pc 1004 then (ga_lk gw_cl12 pc) else (bif Nat.blt pc 1062 then (ga_lk gw_cl13 pc) else (ga_lk gw_cl14 pc)))) else (bif Nat.blt pc 1308 then (bif Nat.blt pc 1186 then (ga_lk gw_cl15 pc) else (bif Nat.blt pc 1246 then (ga_lk gw_cl16 pc) else (ga_lk gw_cl17 pc))) else (bif Nat.blt pc 1370 then (ga_lk gw_cl18 pc) else (bif Nat.blt pc 1432 then (ga_lk gw_cl19 pc) else (ga_lk gw_cl20 pc)))))) else (bif Nat.blt pc 2173 then (bif Nat.blt pc 1806 then (bif Nat.blt pc 1620 then (bif Nat.blt pc 1556 then (ga_lk gw_cl21 pc) else (ga_lk gw_cl22 pc)) else (bif Nat.blt pc 1682 then (ga_lk gw_cl23 pc) else (bif Nat.blt pc 1749 then (ga_lk gw_cl24 pc) else (ga_lk gw_cl25 pc)))) else (bif Nat.blt pc 1990 then (bif Nat.blt pc 1868 then (ga_lk gw_cl26 pc) else (bif Nat.blt pc 1930 then (ga_lk gw_cl27 pc) else (ga_lk gw_cl28 pc))) else (bif Nat.blt pc 2052 then (ga_lk gw_cl29 pc) else (bif Nat.blt pc 2114 then (ga_lk gw_cl30 pc) else (ga_lk gw_cl31 pc))))) else (bif Nat.blt pc 2486 then (bif Nat.blt pc 2297 then (bif Nat.blt pc 2235 then (ga_lk gw_cl32 pc) else (ga_lk gw_cl33 pc)) else (bif Nat.blt pc 2359 then (ga_lk gw_cl34 pc) else (bif Nat.blt pc 2421 then (ga_lk gw_cl35 pc) else (ga_lk gw_cl36 pc)))) else (bif Nat.blt pc 2678 then (bif Nat.blt pc 2545 then (ga_lk gw_cl37 pc) else (bif Nat.blt pc 2607 then (ga_lk gw_cl38 pc) else (ga_lk gw_cl39 pc))) else (bif Nat.blt pc 2740 then (ga_lk gw_cl40 pc) else (bif Nat.blt pc 2811 then (ga_lk gw_cl41 pc) else (ga_lk gw_cl42 pc))))))
def gw_chs : Nat → List (Nat × ga_E) := fun i => match i with
  | 0 => gw_cl0
  | 1 => gw_cl1
  | 2 => gw_cl2
  | 3 => gw_cl3
  | 4 => gw_cl4
  | 5 => gw_cl5
  | 6 => gw_cl6
  | 7 => gw_cl7
  | 8 => gw_cl8
  | 9 => gw_cl9
  | 10 => gw_cl10
  | 11 => gw_cl11
  | 12 => gw_cl12
  | 13 => gw_cl13
  | 14 => gw_cl14
  | 15 => gw_cl15
  | 16 => gw_cl16
  | 17 => gw_cl17
  | 18 => gw_cl18
  | 19 => gw_cl19
  | 20 => gw_cl20
  | 21 => gw_cl21
  | 22 => gw_cl22
  | 23 => gw_cl23
  | 24 => gw_cl24
  | 25 => gw_cl25
  | 26 => gw_cl26
  | 27 => gw_cl27
  | 28 => gw_cl28
  | 29 => gw_cl29
  | 30 => gw_cl30
  | 31 => gw_cl31
  | 32 => gw_cl32
  | 33 => gw_cl33
  | 34 => gw_cl34
  | 35 => gw_cl35
  | 36 => gw_cl36
  | 37 => gw_cl37
  | 38 => gw_cl38
  | 39 => gw_cl39
  | 40 => gw_cl40
  | 41 => gw_cl41
  | 42 => gw_cl42
  | _ => []
theorem gc_bif3 {α : Type} {b : Bool} {x y : Option α} {o : α} (h : (bif b then x else y) = some o) : x = some o ∨ y = some o := by
  cases b with
  | true => exact Or.inl h
  | false => exact Or.inr h
theorem gw_code_mem {pc : Nat} {r : ga_E} (h : gw_code pc = some r) : ∃ i, ga_lk (gw_chs i) pc = some r := by
  have h9 : ∀ (i : Nat) (l : List (Nat × ga_E)), ga_lk (gw_chs i) pc = some r → ∃ i, ga_lk (gw_chs i) pc = some r := fun i _ h => ⟨i, h⟩
  unfold gw_code at h
  rcases gc_bif3 h with h1 | h1
  · skip
    rcases gc_bif3 h1 with h2 | h2
    · skip
      rcases gc_bif3 h2 with h3 | h3
      · skip
        rcases gc_bif3 h3 with h4 | h4
        · skip
          rcases gc_bif3 h4 with h5 | h5
          · skip
            exact h9 0 [] h5
          · skip
            exact h9 1 [] h5
        · skip
          rcases gc_bif3 h4 with h5 | h5
          · skip
            exact h9 2 [] h5
          · skip
            rcases gc_bif3 h5 with h6 | h6
            · skip
              exact h9 3 [] h6
            · skip
              exact h9 4 [] h6
      · skip
        rcases gc_bif3 h3 with h4 | h4
        · skip
          rcases gc_bif3 h4 with h5 | h5
          · skip
            exact h9 5 [] h5
          · skip
            exact h9 6 [] h5
        · skip
          rcases gc_bif3 h4 with h5 | h5
          · skip
            exact h9 7 [] h5
          · skip
            rcases gc_bif3 h5 with h6 | h6
            · skip
              exact h9 8 [] h6
            · skip
              exact h9 9 [] h6
    · skip
      rcases gc_bif3 h2 with h3 | h3
      · skip
        rcases gc_bif3 h3 with h4 | h4
        · skip
          rcases gc_bif3 h4 with h5 | h5
          · skip
            exact h9 10 [] h5
          · skip
            exact h9 11 [] h5
        · skip
          rcases gc_bif3 h4 with h5 | h5
          · skip
            exact h9 12 [] h5
          · skip
            rcases gc_bif3 h5 with h6 | h6
            · skip
              exact h9 13 [] h6
            · skip
              exact h9 14 [] h6
      · skip
        rcases gc_bif3 h3 with h4 | h4
        · skip
          rcases gc_bif3 h4 with h5 | h5
          · skip
            exact h9 15 [] h5
          · skip
            rcases gc_bif3 h5 with h6 | h6
            · skip
              exact h9 16 [] h6
            · skip
              exact h9 17 [] h6
        · skip
          rcases gc_bif3 h4 with h5 | h5
          · skip
            exact h9 18 [] h5
          · skip
            rcases gc_bif3 h5 with h6 | h6
            · skip
              exact h9 19 [] h6
            · skip
              exact h9 20 [] h6
  · skip
    rcases gc_bif3 h1 with h2 | h2
    · skip
      rcases gc_bif3 h2 with h3 | h3
      · skip
        rcases gc_bif3 h3 with h4 | h4
        · skip
          rcases gc_bif3 h4 with h5 | h5
          · skip
            exact h9 21 [] h5
          · skip
            exact h9 22 [] h5
        · skip
          rcases gc_bif3 h4 with h5 | h5
          · skip
            exact h9 23 [] h5
          · skip
            rcases gc_bif3 h5 with h6 | h6
            · skip
              exact h9 24 [] h6
            · skip
              exact h9 25 [] h6
      · skip
        rcases gc_bif3 h3 with h4 | h4
        · skip
          rcases gc_bif3 h4 with h5 | h5
          · skip
            exact h9 26 [] h5
          · skip
            rcases gc_bif3 h5 with h6 | h6
            · skip
              exact h9 27 [] h6
            · skip
              exact h9 28 [] h6
        · skip
          rcases gc_bif3 h4 with h5 | h5
          · skip
            exact h9 29 [] h5
          · skip
            rcases gc_bif3 h5 with h6 | h6
            · skip
              exact h9 30 [] h6
            · skip
              exact h9 31 [] h6
    · skip
      rcases gc_bif3 h2 with h3 | h3
      · skip
        rcases gc_bif3 h3 with h4 | h4
        · skip
          rcases gc_bif3 h4 with h5 | h5
          · skip
            exact h9 32 [] h5
          · skip
            exact h9 33 [] h5
        · skip
          rcases gc_bif3 h4 with h5 | h5
          · skip
            exact h9 34 [] h5
          · skip
            rcases gc_bif3 h5 with h6 | h6
            · skip
              exact h9 35 [] h6
            · skip
              exact h9 36 [] h6
      · skip
        rcases gc_bif3 h3 with h4 | h4
        · skip
          rcases gc_bif3 h4 with h5 | h5
          · skip
            exact h9 37 [] h5
          · skip
            rcases gc_bif3 h5 with h6 | h6
            · skip
              exact h9 38 [] h6
            · skip
              exact h9 39 [] h6
        · skip
          rcases gc_bif3 h4 with h5 | h5
          · skip
            exact h9 40 [] h5
          · skip
            rcases gc_bif3 h5 with h6 | h6
            · skip
              exact h9 41 [] h6
            · skip
              exact h9 42 [] h6
section GW0
/-- a stop, at any count of what was made -/
def gw_sp {α : Type} (pc : Nat) (f : ga_Lo → ga_S → ga_M → Option α) : ga_C → Option (Option α) := fun c => match Nat.beq c.1 pc with
  | true => (match c with
    | (_, L, [], S, σ, _, _) => some (f L S σ)
    | _ => some none)
  | false => none
theorem gw_sp_s {α : Type} {pc : Nat} {f : ga_Lo → ga_S → ga_M → Option α} {r : α} {c : ga_C} (h : gw_sp pc f c = some (some r)) : ∃ (L : ga_Lo) (S : ga_S) (σ : ga_M) (kc ks : Nat), c = (pc, L, [], S, σ, kc, ks) ∧ f L S σ = some r := by
  unfold gw_sp at h
  split at h
  · rename_i hb
    split at h
    · rename_i pc1 L S σ kc ks
      exact ⟨L, S, σ, kc, ks, by rw [← Nat.eq_of_beq_eq_true hb], Option.some.inj h⟩
    · cases h
  · cases h
variable {p : Program} {l : Launch} {e : Env} {R : Room} {s : State} {m : MethodId} {args : Array Value} {below : List Frame} {meth : Method} {c : Code} {Q : State → Prop}
variable {cc : ByteArray} {own : String} {Ts : List Cond} {D : va_G} {cA : Nat → ClassId} {ad : Nat → Nat} {A : Nat → Prop} {code : Nat → Option ga_E} {g : ga_G} {cost : Nat → Nat × Nat} {hnd : Nat → ga_H} {cls : Nat → List ga_F} {NF RC RS : Nat} {ini lf wr : Bool} {scr : Option (Nat × Nat × (Nat → Int32))} {exn : Nat → String} {cb sb : Nat} {Φ : ga_O → Prop} {PS : ga_S → ga_M → Prop}
theorem gw_ev {α : Type} {K0 : ga_O → Option α} {r : α} {sp : ga_C → Option (Option α)} (ok : ga_Ok p l e R s m args below meth c Q cc own Ts D cA ad A code g cost hnd cls NF RC RS ini lf wr scr exn cb sb Φ PS) (hΦ : ∀ o', K0 o' = some r → PS o'.2.1 o'.2.2 → Φ o')
    (hsp : ∀ c', sp c' = some (some r) → ga_W p l e R s m args below meth c Q D cA ad A NF RC RS lf cb sb PS c') : ∀ (n : Nat) (cfg : ga_C), ga_ev (ga_step K0 code g cost hnd cls NF RC RS ini lf wr scr) sp n cfg = some r → ga_W p l e R s m args below meth c Q D cA ad A NF RC RS lf cb sb PS cfg
  | 0, _, h => (by cases h)
  | n + 1, cfg, h => by
    unfold ga_ev at h
    split at h
    · rename_i q hq
      exact hsp _ (by rw [hq, h])
    · exact ga_sound ok (fun c1 h1 => gw_ev ok hΦ hsp n c1 h1) h hΦ
theorem gw_go {α : Type} {K0 : ga_O → Option α} {r : α} {sp : ga_C → Option (Option α)} (ok : ga_Ok p l e R s m args below meth c Q cc own Ts D cA ad A code g cost hnd cls NF RC RS ini lf wr scr exn cb sb Φ PS) (hΦ : ∀ o', K0 o' = some r → PS o'.2.1 o'.2.2 → Φ o')
    (hsp : ∀ c', sp c' = some (some r) → ga_W p l e R s m args below meth c Q D cA ad A NF RC RS lf cb sb PS c') {n : Nat} {cfg : ga_C} (h : ga_step K0 code g cost hnd cls NF RC RS ini lf wr scr cfg (ga_ev (ga_step K0 code g cost hnd cls NF RC RS ini lf wr scr) sp n) = some r) : ga_W p l e R s m args below meth c Q D cA ad A NF RC RS lf cb sb PS cfg :=
  ga_sound ok (fun c1 h1 => gw_ev ok hΦ hsp n c1 h1) h hΦ
theorem gw_shift {RC2 RS2 cb2 sb2 pc kc ks : Nat} {L : ga_Lo} {S : ga_S} {σ : ga_M} (h1 : cb + RC ≤ cb2) (h2 : sb + RS ≤ sb2) (h : ga_W p l e R s m args below meth c Q D cA ad A NF RC2 RS2 lf cb2 sb2 PS (pc, L, [], S, σ, 0, 0)) : ga_W p l e R s m args below meth c Q D cA ad A NF RC RS lf cb sb PS (pc, L, [], S, σ, kc, ks) := by
  intro hf hp hk1 hk2 H locs ls hI hL
  have hk1 : kc ≤ RC := hk1
  have hk2 : ks ≤ RS := hk2
  exact W.widen (by show cb + kc ≤ cb2 + 0; omega) (by show sb + ks ≤ sb2 + 0; omega) (h hf hp (Nat.zero_le _) (Nat.zero_le _) H locs ls hI hL)
end GW0
section GW1
variable {p : Program} {l : Launch} {e : Env} {s : State} {m : MethodId} {args : Array Value} {below : List Frame} {meth : Method} {c : Code}
variable {D : va_G} {cA : Nat → ClassId} {ad : Nat → Nat} {A : Nat → Prop} {adV : Nat → Nat}
theorem gb_callOkB {cb sb : Nat} {R : Room} {Ts : List Cond} {cc : ByteArray} {own : String} {maxL0 lev mc ms : Nat} {g : ga_G} {cost : Nat → Nat × Nat} {PS : ga_S → ga_M → Prop} {code : Nat → Option ga_E} {Q : State → Prop} (hR1 : 10 + lev ≤ R.frames) (hR2 : 100 + 50 * lev ≤ R.locals) (hR3 : cb + mc ≤ R.cells) (hR4 : sb + ms ≤ R.slots)
    (hx : p.tables.exec = Jvm.exec) (hb : c.code = cc) (hml : c.maxLocals = maxL0)
    (hown : s.vm.findClass own = some m.cls) (hT : ∀ w ∈ gb_good, w ∈ Ts) (hts : ∀ w ∈ Ts, w.before args s = true) (hE : gb_E D cA ad A adV s s.heap)
    (hdec : ∀ pc ins len r1 r2 sw, code pc = some (ins, len, r1, r2, sw) → decode cc pc = .ok (ins, len) ∧ ga_chk pc ins len r1 sw = true)
    (hlk : ∀ pc ins len mid na sw, code pc = some (ins, len, mid, na, sw) → ((∃ i, ins = .invokevirtual i) ∨ (∃ i, ins = .invokestatic i) ∨ (∃ i, ins = .invokespecial i) ∧ mid ≠ 0) → (∀ as S σ, g ga_O mid as S σ some = none) ∨ gb_LkM g own ins mid na ∨ gb_Lk l D cA ad A adV g cost PS own lev ins mid na sw) :
    ga_CallOk p l e R s m args below meth c Q D cA ad A code g cost 83 mc ms gb_exn cb sb PS := by
  intro pc ins len mid na sw hcode hins as r S σ o kc ks hPS hlen hsum hg hrv hkc hks H locs ls hI hsz kk kx
  rcases hlk pc ins len mid na sw hcode hins with hdead | ⟨mx, i, rfl, hlkw, hst, hini, hcw, hgm⟩ | ⟨y, bytes, maxL, ret, lv, n, hlv, hmL, hmh, hini, hpar, hk⟩
  · rw [hdead] at hg; cases hg
  · obtain ⟨x, y, rfl, rfl⟩ := hgm as S σ o hg
    obtain ⟨hdg, hchk⟩ := hdec pc _ len mid na sw hcode
    have hlen3 : len = 3 := by simpa [ga_chk] using hchk
    subst hlen3
    have hgood : ∀ w ∈ gb_good, w.before args s = true := fun w h => hts w (hT w h)
    have hcat : ((r.map (ga_v ad)).map fun v => v.category).sum ≤ 8 := by
      rw [List.map_map]
      have : ((fun v : Value => v.category) ∘ ga_v ad) = fun v => v.category := funext fun v => ga_v_cat ad v
      rw [this]; exact hsum
    have hW := kk _ rfl H locs hI
    have hW2 : W p l e R s m args below meth c H locs (cb + kc) (sb + ks) Q (F0 m (pc + 3) ls (.int (bif mx then (if x < y then y else x) else (if y < x then y else x)) :: r.map (ga_v ad))) := W.widen (by omega) (by omega) hW
    cases mx with
    | true => exact va_mmax hx hb hsz.symm hown (hgood _ hlkw) (hgood _ hst) (hgood _ hini) (hgood _ hcw) (by omega) (Nat.le_trans (Nat.add_le_add_right hcat 13) (by omega)) (by omega) (by omega) hdg hW2
    | false => exact va_mmin hx hb hsz.symm hown (hgood _ hlkw) (hgood _ hst) (hgood _ hini) (hgood _ hcw) (by omega) (Nat.le_trans (Nat.add_le_add_right hcat 13) (by omega)) (by omega) (by omega) hdg hW2
  obtain ⟨hdg, hchk⟩ := hdec pc ins len mid na sw hcode
  have hF : CallFix p m c cc maxL0 s args Ts own := ⟨hx, hb, hml, hown, hts⟩
  have hgood : ∀ w ∈ gb_good, w.before args s = true := fun w h => hts w (hT w h)
  have hPc : ∀ U : State, U.heap = H → s.WarmedH U.vm → gb_Pc D cA ad A adV as S σ (as.map (ga_v ad)).toArray U := fun U hU hW => ⟨rfl, gb_P.of hI hU, by rw [hU]; exact hE.to hW hI.2.2.1.1 hI.2.2.1.2.1⟩
  have hcat : ((r.map (ga_v ad)).map fun v => v.category).sum ≤ 8 := by
    rw [List.map_map]
    have : ((fun v : Value => v.category) ∘ ga_v ad) = fun v => v.category := funext fun v => ga_v_cat ad v
    rw [this]; exact hsum
  have hsz2 : ls.size = maxL0 := by rw [hsz, hml]
  have hroom : (gb_rm lv (cost mid).1 (cost mid).2).frames + 1 ≤ R.frames ∧ 8 + (maxL + 11) + (gb_rm lv (cost mid).1 (cost mid).2).locals ≤ R.locals := by
    simp only [gb_rm]; omega
  have hf : cb + kc + (cost mid).1 ≤ R.cells ∧ sb + ks + (cost mid).2 ≤ R.slots := by
    omega
  have hlen3 : len = 3 := by
    rcases hins with ⟨i, rfl⟩ | ⟨i, rfl⟩ | ⟨⟨i, rfl⟩, -⟩ <;> simpa [ga_chk] using hchk
  subst hlen3
  have hS9 := hI.2.2.1
  have hkk : ∀ v, o.1 = .inl v → ∀ (H1 : Heap) (locs1 : List Loc), ga_I D cA A s.heap ad 83 o.2.1 o.2.2 H1 locs1 → W p l e R s m args below meth c H1 locs1 (cb + kc + (cost mid).1) (sb + ks + (cost mid).2) Q (F0 m (pc + 3) ls ((v.toList ++ r).map (ga_v ad))) := fun v hv H1 locs1 hI1 => by simpa [Nat.add_assoc] using kk v hv H1 locs1 hI1
  have hkx : ∀ E, o.1 = .inr E → ∀ (H1 : Heap) (locs1 : List Loc) (q : Addr) (ce : Cell), ga_I D cA A s.heap ad 83 o.2.1 o.2.2 H1 locs1 → H1[q]? = some ce → ce.vm = .none → s.vm.findClass (gb_exn E) = some ce.cls → vx_W p l e R s m args below meth c H1 locs1 (cb + kc + (cost mid).1) (sb + ks + (cost mid).2) Q (F0 m pc ls (r.map (ga_v ad))) q := fun E hE1 H1 locs1 q ce h1 h2 h3 h4 => by simpa [Nat.add_assoc] using kx E hE1 H1 locs1 q ce h1 h2 h3 h4
  rcases hk with ⟨hcw, hC, hkind⟩ | ⟨hh, hcw, hC, i, rfl, hna, hlkw, hst⟩
  · have hM := hC as S σ o hPS hlen hg
    rcases hkind with ⟨i, rfl, hna, hlkw, hinst, hsel, hrc⟩ | ⟨i, rfl, hna, hlkw, hst⟩ | ⟨i, host, rfl, hna, hlkw, hst⟩ | ⟨i, rfl, hna, hnm, rfl, hlkw, hinst, hrc⟩ | ⟨i, host, rfl, hna, hnm, rfl, hlkw, hinst, hrc⟩
    · have hcb := callB_of (own := own) (index := i) (R := R) n hts (gb_ws_in hT hcw) rfl rfl rfl (hgood _ hini) (hgood _ hlkw) ⟨hmh.1, hmh.2, hpar⟩ hroom
      have hcW : CallW R s args own y.cls i y bytes maxL ret (gb_ws y bytes maxL ret) (gb_rm lv (cost mid).1 (cost mid).2) (cost mid).1 (cost mid).2 n := ⟨hcb, hgood _ hinst, hgood _ hsel⟩
      have hrec : ∃ n0 as', as = .ref n0 :: as' ∧ ∃ cellB : Cell, H[ad n0]? = some cellB ∧ cellB.vm.isStatics = false ∧ s.vm.findClass y.cls = some cellB.cls := by
        rcases hrc with ⟨q, r', T, N, hsw, hcl⟩ | ⟨hcls, hw⟩
        · obtain ⟨n0, fs, as', h1, h2⟩ := hrv i q r' rfl hsw
          exact ⟨n0, as', h1, va_recv (hE.1) hI.1 hcl (ga_w_at h2)⟩
        · obtain ⟨i0, as', h1, h2⟩ := hw as S σ o hg
          refine ⟨1000 + i0, as', h1, ?_⟩
          have hS := hE.2.2.2.2.2.2.2.2.1
          have := (hS.to (Vm.Alike.refl s.vm) hI.2.2.1.2.1) i0 h2
          rw [hcls]
          obtain ⟨cell, h3, h4, h5, -⟩ := this.1
          exact ⟨cell, h3, h4, h5⟩
      obtain ⟨n0, as', has, hcell⟩ := hrec
      subst has
      have hrun := vx_runV (e := e) (meth := meth) (below := below) (g := F0 m pc ls ((((Value.ref n0 :: as').reverse ++ r)).map (ga_v ad))) (rest := r.map (ga_v ad)) (As := as'.map (ga_v ad)) (b := ad n0) (H := H) (locs := locs) (cells := cb + kc) (slots := sb + ks) hF hM hcW ⟨gb_blind, hcell, hPc⟩ rfl
        (by have : (as'.map (ga_v ad)).length = as'.length := List.length_map ..
            have h2 : as'.length + 1 = na := hlen
            omega) hsz2 (by simp [List.map_append, List.map_reverse, ga_v]) (by simpa [F0, JFrame.monitorRoom] using hcat) hdg hf
      exact gb_done hrun hS9 hkk hkx
    · have hcb := callB_of (own := own) (index := i) (R := R) n hts (gb_ws_in hT hcw) rfl rfl rfl (hgood _ hini) (hgood _ hlkw) ⟨hmh.1, hmh.2, hpar⟩ hroom
      have hrun := vx_runS (e := e) (meth := meth) (below := below) (g := F0 m pc ls ((as.reverse ++ r).map (ga_v ad))) (rest := r.map (ga_v ad)) (As := as.map (ga_v ad)) (H := H) (locs := locs) (cells := cb + kc) (slots := sb + ks) hF hM ⟨hcb, hgood _ hst⟩ ⟨gb_blind, hPc⟩ rfl
        (by have : (as.map (ga_v ad)).length = as.length := List.length_map ..
            omega) hsz2 (by simp [List.map_append, List.map_reverse]) (by simpa [F0, JFrame.monitorRoom] using hcat) hdg hf
      exact gb_done hrun hS9 hkk hkx
    · have hcn := va_cnB (own := own) (host := host) (index := i) (R := R) n hts (gb_ws_in hT hcw) rfl rfl rfl (hE.2.2.1 _ hlkw) (hgood _ hini) ⟨hmh.1, hmh.2, hpar⟩ hroom
      have hrun := vx_runSN (e := e) (meth := meth) (below := below) (g := F0 m pc ls ((as.reverse ++ r).map (ga_v ad))) (rest := r.map (ga_v ad)) (As := as.map (ga_v ad)) (H := H) (locs := locs) (cells := cb + kc) (slots := sb + ks) hF hM ⟨hcn, hgood _ hst, trivial⟩ ⟨gb_blind, hPc⟩ rfl
        (by have : (as.map (ga_v ad)).length = as.length := List.length_map ..
            omega) hsz2 (by simp [List.map_append, List.map_reverse]) (by simpa [F0, JFrame.monitorRoom] using hcat) hdg hf
      exact gb_done hrun hS9 hkk hkx
    · obtain ⟨n0, as', has⟩ := hrc as S σ o hg
      subst has
      have hcb := callB_of (own := own) (index := i) (R := R) n hts (gb_ws_in hT hcw) rfl rfl rfl (hgood _ hini) (hgood _ hlkw) ⟨hmh.1, hmh.2, hpar⟩ hroom
      have hrun := vx_runI (e := e) (meth := meth) (below := below) (g := F0 m pc ls ((((Value.ref n0 :: as').reverse ++ r)).map (ga_v ad))) (rest := r.map (ga_v ad)) (As := as'.map (ga_v ad)) (b := ad n0) (H := H) (locs := locs) (cells := cb + kc) (slots := sb + ks) hF hM ⟨hcb, hnm, hgood _ hinst⟩ ⟨gb_blind, hPc⟩ rfl
        (by have : (as'.map (ga_v ad)).length = as'.length := List.length_map ..
            have h2 : as'.length + 1 = na := hlen
            omega) hsz2 (by simp [List.map_append, List.map_reverse, ga_v]) (by simpa [F0, JFrame.monitorRoom] using hcat) hdg hf
      exact gb_done hrun hS9 hkk hkx
    · obtain ⟨n0, as', has⟩ := hrc as S σ o hg
      subst has
      have hcn := va_cnB (own := own) (host := host) (index := i) (R := R) n hts (gb_ws_in hT hcw) rfl rfl rfl (hE.2.2.1 _ hlkw) (hgood _ hini) ⟨hmh.1, hmh.2, hpar⟩ hroom
      have hrun := vx_runIN (e := e) (meth := meth) (below := below) (g := F0 m pc ls ((((Value.ref n0 :: as').reverse ++ r)).map (ga_v ad))) (rest := r.map (ga_v ad)) (As := as'.map (ga_v ad)) (b := ad n0) (H := H) (locs := locs) (cells := cb + kc) (slots := sb + ks) hF hM ⟨hcn, hnm, hgood _ hinst⟩ ⟨gb_blind, hPc⟩ rfl
        (by have : (as'.map (ga_v ad)).length = as'.length := List.length_map ..
            have h2 : as'.length + 1 = na := hlen
            omega) hsz2 (by simp [List.map_append, List.map_reverse, ga_v]) (by simpa [F0, JFrame.monitorRoom] using hcat) hdg hf
      exact gb_done hrun hS9 hkk hkx
  · have hM := hC as S σ o hPS hlen hg
    have hcs : vx_CSW R s args own i y bytes maxL ret hh (gb_wsW y bytes maxL ret hh) (gb_rm lv (cost mid).1 (cost mid).2) (cost mid).1 (cost mid).2 n := by
      refine ⟨⟨rfl, rfl, hroom.1, hroom.2, pay_in hts (gb_wsW_in hT hcw), List.mem_cons_self⟩, hgood _ hcw, hgood _ hini, hmh, fun sig h => ?_, hgood _ hlkw, hgood _ hst⟩
      rw [h] at hpar
      exact (Option.some.inj hpar).symm
    have hrun := vx_runSX (e := e) (meth := meth) (below := below) (g := F0 m pc ls ((as.reverse ++ r).map (ga_v ad))) (rest := r.map (ga_v ad)) (As := as.map (ga_v ad)) (H := H) (locs := locs) (cells := cb + kc) (slots := sb + ks) hF hM hcs ⟨gb_blind, hPc⟩ rfl
      (by have : (as.map (ga_v ad)).length = as.length := List.length_map ..
          omega) hsz2 (by simp [List.map_append, List.map_reverse]) (by simpa [F0, JFrame.monitorRoom] using hcat) hdg hf
    exact gb_done hrun hS9 hkk hkx
end GW1
section GW2
variable {l : Launch} {D : va_G} {cA : Nat → ClassId} {ad : Nat → Nat} {A : Nat → Prop} {adV : Nat → Nat}
theorem gw_LkX {i mid na : Nat} {z : Int32 × Nat} (hM : gc_MM l D cA ad A adV mid) (hb : Nat.blt mid 445 = true) (hc : gaCostK mid = gaCost mid) (hki : gb_ki mid = 0) (h1 : gb_lv mid + 1 ≤ 40) (h7 : na = gb_ar mid + 1) (hz : z.2 = gb_ci mid) (h9 : Cond.methodLink RL i (gb_y mid) ∈ gb_good) : gb_Lk l D cA ad A adV gaLaw gaCostK (fun _ _ => True) RL 40 (.invokevirtual i) mid na [z] :=
  gk_LkV hM.1 hki h1 h7 hz h9 (fun as S σ o _ hg => by
    have h2 : gaLaw ga_O mid as S σ some = (bif gk_eq S gaSH then gaG ga_O mid as S σ some else none) := by unfold gaLaw; rw [hb]; rfl
    rw [h2] at hg
    obtain ⟨hS, h3⟩ := gc_bif hg
    have e := gk_eq_eq hS
    subst e
    rw [hc]
    exact hM.2.2 as σ o h3)
theorem gw_Lk_445 (hl : l.stackTraces = false) : gb_Lk l D cA ad A adV gaLaw gaCostK (fun _ _ => True) RL 40 (.invokestatic 140) 445 7 [] := by
  refine ⟨yL_appendText, cL_appendText, 8, some .int, 3, 7, by decide, by decide, gl_nmL, (gb_w1 0 rfl rfl), by decide +kernel, Or.inr ⟨[(0, 16, 19, 13)], (gb_w5 5 rfl rfl), fun as S σ o h98 h99 hg => ?_, 140, rfl, rfl, (gb_w5 3 rfl rfl), (gb_w5 4 rfl rfl)⟩⟩
  clear h98 h99
  replace hg : (bif gk_eq S gaSH then cw_L_appendText as S σ some else none) = some o := hg
  obtain ⟨hS, k1⟩ := gc_bif hg
  clear hg
  have e := gk_eq_eq hS
  subst e
  unfold cw_L_appendText at k1
  split at k1
  · rename_i r0 a b c d e r1
    obtain ⟨hb, k2⟩ := gc_bif k1
    obtain ⟨hb0, hb1⟩ := Bool.and_eq_true_iff.mp hb
    have e0 := Nat.eq_of_beq_eq_true hb0
    have e1 := Nat.eq_of_beq_eq_true hb1
    subst e0
    subst e1
    obtain ⟨⟨q1, q2⟩, hq, k3⟩ := gc_bind k2
    cases q1 with
    | inl x =>
      have eo := Option.some.inj k3
      subst eo
      exact gl_445 hl a b c d e σ x q2 hq
    | inr E => cases k3
  · cases k1
theorem gw_Lk_446 (hl : l.stackTraces = false) : gb_Lk l D cA ad A adV gaLaw gaCostK (fun _ _ => True) RL 40 (.invokestatic 149) 446 3 [] := by
  refine ⟨yL_truncateText, cL_truncateText, 4, some .int, 1, 3, by decide, by decide, gl_nmL, (gb_w1 0 rfl rfl), by decide +kernel, Or.inr ⟨[(0, 9, 12, 19)], (gb_w5 86 rfl rfl), fun as S σ o h98 h99 hg => ?_, 149, rfl, rfl, (gb_w5 84 rfl rfl), (gb_w5 85 rfl rfl)⟩⟩
  clear h98 h99
  replace hg : (bif gk_eq S gaSH then cw_L_truncateText as S σ some else none) = some o := hg
  obtain ⟨hS, k1⟩ := gc_bif hg
  clear hg
  have e := gk_eq_eq hS
  subst e
  unfold cw_L_truncateText at k1
  split at k1
  · rename_i r0 a r1
    obtain ⟨hb, k2⟩ := gc_bif k1
    obtain ⟨hb0, hb1⟩ := Bool.and_eq_true_iff.mp hb
    have e0 := Nat.eq_of_beq_eq_true hb0
    have e1 := Nat.eq_of_beq_eq_true hb1
    subst e0
    subst e1
    obtain ⟨⟨q1, q2⟩, hq, k3⟩ := gc_bind k2
    cases q1 with
    | inl x =>
      have eo := Option.some.inj k3
      subst eo
      exact gl_446 hl a σ x q2 hq
    | inr E => cases k3
  · cases k1
theorem gw_Lk_447 (hl : l.stackTraces = false) : gb_Lk l D cA ad A adV gaLaw gaCostK (fun _ _ => True) RL 40 (.invokestatic 169) 447 5 [] := by
  refine ⟨yL_setAbsent, cL_setAbsent, 6, some .int, 4, 5, by decide, by decide, gl_nmL, (gb_w1 0 rfl rfl), by decide +kernel, Or.inr ⟨[(0, 12, 15, 25)], (gb_w5 110 rfl rfl), fun as S σ o h98 h99 hg => ?_, 169, rfl, rfl, (gb_w5 108 rfl rfl), (gb_w5 109 rfl rfl)⟩⟩
  clear h98 h99
  replace hg : (bif gk_eq S gaSH then cw_L_setAbsent as S σ some else none) = some o := hg
  obtain ⟨hS, k1⟩ := gc_bif hg
  clear hg
  have e := gk_eq_eq hS
  subst e
  unfold cw_L_setAbsent at k1
  split at k1
  · rename_i r0 a b c r1
    obtain ⟨hb, k2⟩ := gc_bif k1
    obtain ⟨hb0, hb1⟩ := Bool.and_eq_true_iff.mp hb
    have e0 := Nat.eq_of_beq_eq_true hb0
    have e1 := Nat.eq_of_beq_eq_true hb1
    subst e0
    subst e1
    obtain ⟨⟨q1, q2⟩, hq, k3⟩ := gc_bind k2
    cases q1 with
    | inl x =>
      have eo := Option.some.inj k3
      subst eo
      exact gl_447 hl a b c σ x q2 hq
    | inr E => cases k3
  · cases k1
theorem gw_Lk_448 (hl : l.stackTraces = false) : gb_Lk l D cA ad A adV gaLaw gaCostK (fun _ _ => True) RL 40 (.invokestatic 173) 448 4 [] := by
  refine ⟨yL_cover, cL_cover, 5, some .int, 6, 4, by decide, by decide, gl_nmL, (gb_w1 0 rfl rfl), by decide +kernel, Or.inr ⟨[(0, 10, 13, 25), (0, 10, 17, 13)], (gb_w5 146 rfl rfl), fun as S σ o h98 h99 hg => ?_, 173, rfl, rfl, (gb_w5 144 rfl rfl), (gb_w5 145 rfl rfl)⟩⟩
  clear h98 h99
  replace hg : (bif gk_eq S gaSH then cw_L_cover as S σ some else none) = some o := hg
  obtain ⟨hS, k1⟩ := gc_bif hg
  clear hg
  have e := gk_eq_eq hS
  subst e
  unfold cw_L_cover at k1
  split at k1
  · rename_i r0 a b r1
    obtain ⟨hb, k2⟩ := gc_bif k1
    obtain ⟨hb0, hb1⟩ := Bool.and_eq_true_iff.mp hb
    have e0 := Nat.eq_of_beq_eq_true hb0
    have e1 := Nat.eq_of_beq_eq_true hb1
    subst e0
    subst e1
    obtain ⟨⟨q1, q2⟩, hq, k3⟩ := gc_bind k2
    cases q1 with
    | inl x =>
      have eo := Option.some.inj k3
      subst eo
      exact gl_448 hl a b σ x q2 hq
    | inr E => cases k3
  · cases k1
theorem gw_Lk_449 (hl : l.stackTraces = false) : gb_Lk l D cA ad A adV gaLaw gaCostK (fun _ _ => True) RL 40 (.invokestatic 177) 449 4 [] := by
  refine ⟨yL_supervise, cL_supervise, 5, some .int, 6, 4, by decide, by decide, gl_nmL, (gb_w1 0 rfl rfl), by decide +kernel, Or.inr ⟨[(0, 10, 13, 25), (0, 10, 17, 13)], (gb_w5 165 rfl rfl), fun as S σ o h98 h99 hg => ?_, 177, rfl, rfl, (gb_w5 163 rfl rfl), (gb_w5 164 rfl rfl)⟩⟩
  clear h98 h99
  replace hg : (bif gk_eq S gaSH then cw_L_supervise as S σ some else none) = some o := hg
  obtain ⟨hS, k1⟩ := gc_bif hg
  clear hg
  have e := gk_eq_eq hS
  subst e
  unfold cw_L_supervise at k1
  split at k1
  · rename_i r0 a b r1
    obtain ⟨hb, k2⟩ := gc_bif k1
    obtain ⟨hb0, hb1⟩ := Bool.and_eq_true_iff.mp hb
    have e0 := Nat.eq_of_beq_eq_true hb0
    have e1 := Nat.eq_of_beq_eq_true hb1
    subst e0
    subst e1
    obtain ⟨⟨q1, q2⟩, hq, k3⟩ := gc_bind k2
    cases q1 with
    | inl x =>
      have eo := Option.some.inj k3
      subst eo
      exact gl_449 hl a b σ x q2 hq
    | inr E => cases k3
  · cases k1
theorem gw_Lk_450 (hl : l.stackTraces = false) : gb_Lk l D cA ad A adV gaLaw gaCostK (fun _ _ => True) RL 40 (.invokestatic 180) 450 3 [] := by
  refine ⟨yL_repair, cL_repair, 4, some .int, 6, 3, by decide, by decide, gl_nmL, (gb_w1 0 rfl rfl), by decide +kernel, Or.inr ⟨[(0, 9, 12, 25), (0, 9, 15, 13)], (gb_w5 177 rfl rfl), fun as S σ o h98 h99 hg => ?_, 180, rfl, rfl, (gb_w5 175 rfl rfl), (gb_w5 176 rfl rfl)⟩⟩
  clear h98 h99
  replace hg : (bif gk_eq S gaSH then cw_L_repair as S σ some else none) = some o := hg
  obtain ⟨hS, k1⟩ := gc_bif hg
  clear hg
  have e := gk_eq_eq hS
  subst e
  unfold cw_L_repair at k1
  split at k1
  · rename_i r0 a r1
    obtain ⟨hb, k2⟩ := gc_bif k1
    obtain ⟨hb0, hb1⟩ := Bool.and_eq_true_iff.mp hb
    have e0 := Nat.eq_of_beq_eq_true hb0
    have e1 := Nat.eq_of_beq_eq_true hb1
    subst e0
    subst e1
    obtain ⟨⟨q1, q2⟩, hq, k3⟩ := gc_bind k2
    cases q1 with
    | inl x =>
      have eo := Option.some.inj k3
      subst eo
      exact gl_450 hl a σ x q2 hq
    | inr E => cases k3
  · cases k1
theorem gw_Lk_451 (hl : l.stackTraces = false) : gb_Lk l D cA ad A adV gaLaw gaCostK (fun _ _ => True) RL 40 (.invokestatic 187) 451 4 [] := by
  refine ⟨yL_exchange, cL_exchange, 5, some .int, 7, 4, by decide, by decide, gl_nmL, (gb_w1 0 rfl rfl), by decide +kernel, Or.inr ⟨[(0, 10, 13, 25), (0, 10, 17, 13)], (gb_w5 185 rfl rfl), fun as S σ o h98 h99 hg => ?_, 187, rfl, rfl, (gb_w5 183 rfl rfl), (gb_w5 184 rfl rfl)⟩⟩
  clear h98 h99
  replace hg : (bif gk_eq S gaSH then cw_L_exchange as S σ some else none) = some o := hg
  obtain ⟨hS, k1⟩ := gc_bif hg
  clear hg
  have e := gk_eq_eq hS
  subst e
  unfold cw_L_exchange at k1
  split at k1
  · rename_i r0 a b r1
    obtain ⟨hb, k2⟩ := gc_bif k1
    obtain ⟨hb0, hb1⟩ := Bool.and_eq_true_iff.mp hb
    have e0 := Nat.eq_of_beq_eq_true hb0
    have e1 := Nat.eq_of_beq_eq_true hb1
    subst e0
    subst e1
    obtain ⟨⟨q1, q2⟩, hq, k3⟩ := gc_bind k2
    cases q1 with
    | inl x =>
      have eo := Option.some.inj k3
      subst eo
      exact gl_451 hl a b σ x q2 hq
    | inr E => cases k3
  · cases k1
theorem gw_Lk_452 (hl : l.stackTraces = false) : gb_Lk l D cA ad A adV gaLaw gaCostK (fun _ _ => True) RL 40 (.invokestatic 190) 452 4 [] := by
  refine ⟨yL_move, cL_move, 5, some .int, 7, 4, by decide, by decide, gl_nmL, (gb_w1 0 rfl rfl), by decide +kernel, Or.inr ⟨[(0, 10, 13, 25), (0, 10, 17, 13)], (gb_w5 193 rfl rfl), fun as S σ o h98 h99 hg => ?_, 190, rfl, rfl, (gb_w5 191 rfl rfl), (gb_w5 192 rfl rfl)⟩⟩
  clear h98 h99
  replace hg : (bif gk_eq S gaSH then cw_L_move as S σ some else none) = some o := hg
  obtain ⟨hS, k1⟩ := gc_bif hg
  clear hg
  have e := gk_eq_eq hS
  subst e
  unfold cw_L_move at k1
  split at k1
  · rename_i r0 a b r1
    obtain ⟨hb, k2⟩ := gc_bif k1
    obtain ⟨hb0, hb1⟩ := Bool.and_eq_true_iff.mp hb
    have e0 := Nat.eq_of_beq_eq_true hb0
    have e1 := Nat.eq_of_beq_eq_true hb1
    subst e0
    subst e1
    obtain ⟨⟨q1, q2⟩, hq, k3⟩ := gc_bind k2
    cases q1 with
    | inl x =>
      have eo := Option.some.inj k3
      subst eo
      exact gl_452 hl a b σ x q2 hq
    | inr E => cases k3
  · cases k1
theorem gw_Lk_453 (hl : l.stackTraces = false) : gb_Lk l D cA ad A adV gaLaw gaCostK (fun _ _ => True) RL 40 (.invokestatic 193) 453 4 [] := by
  refine ⟨yL_setRoom, cL_setRoom, 5, some .int, 5, 4, by decide, by decide, gl_nmL, (gb_w1 0 rfl rfl), by decide +kernel, Or.inr ⟨[(0, 10, 13, 25), (0, 10, 17, 13)], (gb_w5 207 rfl rfl), fun as S σ o h98 h99 hg => ?_, 193, rfl, rfl, (gb_w5 205 rfl rfl), (gb_w5 206 rfl rfl)⟩⟩
  clear h98 h99
  replace hg : (bif gk_eq S gaSH then cw_L_setRoom as S σ some else none) = some o := hg
  obtain ⟨hS, k1⟩ := gc_bif hg
  clear hg
  have e := gk_eq_eq hS
  subst e
  unfold cw_L_setRoom at k1
  split at k1
  · rename_i r0 a b r1
    obtain ⟨hb, k2⟩ := gc_bif k1
    obtain ⟨hb0, hb1⟩ := Bool.and_eq_true_iff.mp hb
    have e0 := Nat.eq_of_beq_eq_true hb0
    have e1 := Nat.eq_of_beq_eq_true hb1
    subst e0
    subst e1
    obtain ⟨⟨q1, q2⟩, hq, k3⟩ := gc_bind k2
    cases q1 with
    | inl x =>
      have eo := Option.some.inj k3
      subst eo
      exact gl_453 hl a b σ x q2 hq
    | inr E => cases k3
  · cases k1
theorem gw_Lk_454 (hl : l.stackTraces = false) : gb_Lk l D cA ad A adV gaLaw gaCostK (fun _ _ => True) RL 40 (.invokestatic 196) 454 3 [] := by
  refine ⟨yL_reopen, cL_reopen, 4, some .int, 4, 3, by decide, by decide, gl_nmL, (gb_w1 0 rfl rfl), by decide +kernel, Or.inr ⟨[(0, 9, 12, 25), (0, 9, 15, 13)], (gb_w5 221 rfl rfl), fun as S σ o h98 h99 hg => ?_, 196, rfl, rfl, (gb_w5 219 rfl rfl), (gb_w5 220 rfl rfl)⟩⟩
  clear h98 h99
  replace hg : (bif gk_eq S gaSH then cw_L_reopen as S σ some else none) = some o := hg
  obtain ⟨hS, k1⟩ := gc_bif hg
  clear hg
  have e := gk_eq_eq hS
  subst e
  unfold cw_L_reopen at k1
  split at k1
  · rename_i r0 a r1
    obtain ⟨hb, k2⟩ := gc_bif k1
    obtain ⟨hb0, hb1⟩ := Bool.and_eq_true_iff.mp hb
    have e0 := Nat.eq_of_beq_eq_true hb0
    have e1 := Nat.eq_of_beq_eq_true hb1
    subst e0
    subst e1
    obtain ⟨⟨q1, q2⟩, hq, k3⟩ := gc_bind k2
    cases q1 with
    | inl x =>
      have eo := Option.some.inj k3
      subst eo
      exact gl_454 hl a σ x q2 hq
    | inr E => cases k3
  · cases k1
theorem gw_Lk_455 (hl : l.stackTraces = false) : gb_Lk l D cA ad A adV gaLaw gaCostK (fun _ _ => True) RL 40 (.invokestatic 203) 455 4 [] := by
  refine ⟨yL_whyNotCover, cL_whyNotCover, 5, some .int, 5, 4, by decide, by decide, gl_nmL, (gb_w1 0 rfl rfl), by decide +kernel, Or.inr ⟨[(0, 10, 13, 25)], (gb_w5 229 rfl rfl), fun as S σ o h98 h99 hg => ?_, 203, rfl, rfl, (gb_w5 227 rfl rfl), (gb_w5 228 rfl rfl)⟩⟩
  clear h98 h99
  replace hg : (bif gk_eq S gaSH then cw_L_whyNotCover as S σ some else none) = some o := hg
  obtain ⟨hS, k1⟩ := gc_bif hg
  clear hg
  have e := gk_eq_eq hS
  subst e
  unfold cw_L_whyNotCover at k1
  split at k1
  · rename_i r0 a b r1
    obtain ⟨hb, k2⟩ := gc_bif k1
    obtain ⟨hb0, hb1⟩ := Bool.and_eq_true_iff.mp hb
    have e0 := Nat.eq_of_beq_eq_true hb0
    have e1 := Nat.eq_of_beq_eq_true hb1
    subst e0
    subst e1
    obtain ⟨⟨q1, q2⟩, hq, k3⟩ := gc_bind k2
    cases q1 with
    | inl x =>
      have eo := Option.some.inj k3
      subst eo
      exact gl_455 hl a b σ x q2 hq
    | inr E => cases k3
  · cases k1
theorem gw_Lk_456 (hl : l.stackTraces = false) : gb_Lk l D cA ad A adV gaLaw gaCostK (fun _ _ => True) RL 40 (.invokestatic 206) 456 4 [] := by
  refine ⟨yL_whyNotSupervise, cL_whyNotSupervise, 5, some .int, 5, 4, by decide, by decide, gl_nmL, (gb_w1 0 rfl rfl), by decide +kernel, Or.inr ⟨[(0, 10, 13, 25)], (gb_w5 237 rfl rfl), fun as S σ o h98 h99 hg => ?_, 206, rfl, rfl, (gb_w5 235 rfl rfl), (gb_w5 236 rfl rfl)⟩⟩
  clear h98 h99
  replace hg : (bif gk_eq S gaSH then cw_L_whyNotSupervise as S σ some else none) = some o := hg
  obtain ⟨hS, k1⟩ := gc_bif hg
  clear hg
  have e := gk_eq_eq hS
  subst e
  unfold cw_L_whyNotSupervise at k1
  split at k1
  · rename_i r0 a b r1
    obtain ⟨hb, k2⟩ := gc_bif k1
    obtain ⟨hb0, hb1⟩ := Bool.and_eq_true_iff.mp hb
    have e0 := Nat.eq_of_beq_eq_true hb0
    have e1 := Nat.eq_of_beq_eq_true hb1
    subst e0
    subst e1
    obtain ⟨⟨q1, q2⟩, hq, k3⟩ := gc_bind k2
    cases q1 with
    | inl x =>
      have eo := Option.some.inj k3
      subst eo
      exact gl_456 hl a b σ x q2 hq
    | inr E => cases k3
  · cases k1
theorem gw_Lk_457 (hl : l.stackTraces = false) : gb_Lk l D cA ad A adV gaLaw gaCostK (fun _ _ => True) RL 40 (.invokestatic 209) 457 4 [] := by
  refine ⟨yL_whyNotExchange, cL_whyNotExchange, 5, some .int, 6, 4, by decide, by decide, gl_nmL, (gb_w1 0 rfl rfl), by decide +kernel, Or.inr ⟨[(0, 10, 13, 25)], (gb_w6 5 rfl rfl), fun as S σ o h98 h99 hg => ?_, 209, rfl, rfl, (gb_w6 3 rfl rfl), (gb_w6 4 rfl rfl)⟩⟩
  clear h98 h99
  replace hg : (bif gk_eq S gaSH then cw_L_whyNotExchange as S σ some else none) = some o := hg
  obtain ⟨hS, k1⟩ := gc_bif hg
  clear hg
  have e := gk_eq_eq hS
  subst e
  unfold cw_L_whyNotExchange at k1
  split at k1
  · rename_i r0 a b r1
    obtain ⟨hb, k2⟩ := gc_bif k1
    obtain ⟨hb0, hb1⟩ := Bool.and_eq_true_iff.mp hb
    have e0 := Nat.eq_of_beq_eq_true hb0
    have e1 := Nat.eq_of_beq_eq_true hb1
    subst e0
    subst e1
    obtain ⟨⟨q1, q2⟩, hq, k3⟩ := gc_bind k2
    cases q1 with
    | inl x =>
      have eo := Option.some.inj k3
      subst eo
      exact gl_457 hl a b σ x q2 hq
    | inr E => cases k3
  · cases k1
theorem gw_Lk_458 (hl : l.stackTraces = false) : gb_Lk l D cA ad A adV gaLaw gaCostK (fun _ _ => True) RL 40 (.invokestatic 212) 458 4 [] := by
  refine ⟨yL_whyNotMove, cL_whyNotMove, 5, some .int, 6, 4, by decide, by decide, gl_nmL, (gb_w1 0 rfl rfl), by decide +kernel, Or.inr ⟨[(0, 10, 13, 25)], (gb_w6 13 rfl rfl), fun as S σ o h98 h99 hg => ?_, 212, rfl, rfl, (gb_w6 11 rfl rfl), (gb_w6 12 rfl rfl)⟩⟩
  clear h98 h99
  replace hg : (bif gk_eq S gaSH then cw_L_whyNotMove as S σ some else none) = some o := hg
  obtain ⟨hS, k1⟩ := gc_bif hg
  clear hg
  have e := gk_eq_eq hS
  subst e
  unfold cw_L_whyNotMove at k1
  split at k1
  · rename_i r0 a b r1
    obtain ⟨hb, k2⟩ := gc_bif k1
    obtain ⟨hb0, hb1⟩ := Bool.and_eq_true_iff.mp hb
    have e0 := Nat.eq_of_beq_eq_true hb0
    have e1 := Nat.eq_of_beq_eq_true hb1
    subst e0
    subst e1
    obtain ⟨⟨q1, q2⟩, hq, k3⟩ := gc_bind k2
    cases q1 with
    | inl x =>
      have eo := Option.some.inj k3
      subst eo
      exact gl_458 hl a b σ x q2 hq
    | inr E => cases k3
  · cases k1
theorem gw_Lk_459 (hl : l.stackTraces = false) : gb_Lk l D cA ad A adV gaLaw gaCostK (fun _ _ => True) RL 40 (.invokestatic 215) 459 4 [] := by
  refine ⟨yL_whyNotRoom, cL_whyNotRoom, 5, some .int, 4, 4, by decide, by decide, gl_nmL, (gb_w1 0 rfl rfl), by decide +kernel, Or.inr ⟨[(0, 10, 13, 25)], (gb_w6 21 rfl rfl), fun as S σ o h98 h99 hg => ?_, 215, rfl, rfl, (gb_w6 19 rfl rfl), (gb_w6 20 rfl rfl)⟩⟩
  clear h98 h99
  replace hg : (bif gk_eq S gaSH then cw_L_whyNotRoom as S σ some else none) = some o := hg
  obtain ⟨hS, k1⟩ := gc_bif hg
  clear hg
  have e := gk_eq_eq hS
  subst e
  unfold cw_L_whyNotRoom at k1
  split at k1
  · rename_i r0 a b r1
    obtain ⟨hb, k2⟩ := gc_bif k1
    obtain ⟨hb0, hb1⟩ := Bool.and_eq_true_iff.mp hb
    have e0 := Nat.eq_of_beq_eq_true hb0
    have e1 := Nat.eq_of_beq_eq_true hb1
    subst e0
    subst e1
    obtain ⟨⟨q1, q2⟩, hq, k3⟩ := gc_bind k2
    cases q1 with
    | inl x =>
      have eo := Option.some.inj k3
      subst eo
      exact gl_459 hl a b σ x q2 hq
    | inr E => cases k3
  · cases k1
theorem gw_Lk_460 (hl : l.stackTraces = false) : gb_Lk l D cA ad A adV gaLaw gaCostK (fun _ _ => True) RL 40 (.invokestatic 218) 460 3 [] := by
  refine ⟨yL_candidates, cL_candidates, 4, some .int, 5, 3, by decide, by decide, gl_nmL, (gb_w1 0 rfl rfl), by decide +kernel, Or.inr ⟨[(0, 9, 12, 25)], (gb_w6 29 rfl rfl), fun as S σ o h98 h99 hg => ?_, 218, rfl, rfl, (gb_w6 27 rfl rfl), (gb_w6 28 rfl rfl)⟩⟩
  clear h98 h99
  replace hg : (bif gk_eq S gaSH then cw_L_candidates as S σ some else none) = some o := hg
  obtain ⟨hS, k1⟩ := gc_bif hg
  clear hg
  have e := gk_eq_eq hS
  subst e
  unfold cw_L_candidates at k1
  split at k1
  · rename_i r0 a r1
    obtain ⟨hb, k2⟩ := gc_bif k1
    obtain ⟨hb0, hb1⟩ := Bool.and_eq_true_iff.mp hb
    have e0 := Nat.eq_of_beq_eq_true hb0
    have e1 := Nat.eq_of_beq_eq_true hb1
    subst e0
    subst e1
    obtain ⟨⟨q1, q2⟩, hq, k3⟩ := gc_bind k2
    cases q1 with
    | inl x =>
      have eo := Option.some.inj k3
      subst eo
      exact gl_460 hl a σ x q2 hq
    | inr E => cases k3
  · cases k1
theorem gw_Lk_461 (hl : l.stackTraces = false) : gb_Lk l D cA ad A adV gaLaw gaCostK (fun _ _ => True) RL 40 (.invokestatic 221) 461 3 [] := by
  refine ⟨yL_chain, cL_chain, 4, some .int, 5, 3, by decide, by decide, gl_nmL, (gb_w1 0 rfl rfl), by decide +kernel, Or.inr ⟨[(0, 9, 12, 25)], (gb_w6 36 rfl rfl), fun as S σ o h98 h99 hg => ?_, 221, rfl, rfl, (gb_w6 34 rfl rfl), (gb_w6 35 rfl rfl)⟩⟩
  clear h98 h99
  replace hg : (bif gk_eq S gaSH then cw_L_chain as S σ some else none) = some o := hg
  obtain ⟨hS, k1⟩ := gc_bif hg
  clear hg
  have e := gk_eq_eq hS
  subst e
  unfold cw_L_chain at k1
  split at k1
  · rename_i r0 a r1
    obtain ⟨hb, k2⟩ := gc_bif k1
    obtain ⟨hb0, hb1⟩ := Bool.and_eq_true_iff.mp hb
    have e0 := Nat.eq_of_beq_eq_true hb0
    have e1 := Nat.eq_of_beq_eq_true hb1
    subst e0
    subst e1
    obtain ⟨⟨q1, q2⟩, hq, k3⟩ := gc_bind k2
    cases q1 with
    | inl x =>
      have eo := Option.some.inj k3
      subst eo
      exact gl_461 hl a σ x q2 hq
    | inr E => cases k3
  · cases k1
theorem gw_Lk_462 (hl : l.stackTraces = false) : gb_Lk l D cA ad A adV gaLaw gaCostK (fun _ _ => True) RL 40 (.invokestatic 224) 462 4 [] := by
  refine ⟨yL_chainTeacher, cL_chainTeacher, 5, some .int, 5, 4, by decide, by decide, gl_nmL, (gb_w1 0 rfl rfl), by decide +kernel, Or.inr ⟨[(0, 10, 13, 25), (0, 10, 17, 73)], (gb_w6 44 rfl rfl), fun as S σ o h98 h99 hg => ?_, 224, rfl, rfl, (gb_w6 42 rfl rfl), (gb_w6 43 rfl rfl)⟩⟩
  clear h98 h99
  replace hg : (bif gk_eq S gaSH then cw_L_chainTeacher as S σ some else none) = some o := hg
  obtain ⟨hS, k1⟩ := gc_bif hg
  clear hg
  have e := gk_eq_eq hS
  subst e
  unfold cw_L_chainTeacher at k1
  split at k1
  · rename_i r0 a b r1
    obtain ⟨hb, k2⟩ := gc_bif k1
    obtain ⟨hb0, hb1⟩ := Bool.and_eq_true_iff.mp hb
    have e0 := Nat.eq_of_beq_eq_true hb0
    have e1 := Nat.eq_of_beq_eq_true hb1
    subst e0
    subst e1
    obtain ⟨⟨q1, q2⟩, hq, k3⟩ := gc_bind k2
    cases q1 with
    | inl x =>
      have eo := Option.some.inj k3
      subst eo
      exact gl_462 hl a b σ x q2 hq
    | inr E => cases k3
  · cases k1
theorem gw_Lk_463 (hl : l.stackTraces = false) : gb_Lk l D cA ad A adV gaLaw gaCostK (fun _ _ => True) RL 40 (.invokestatic 227) 463 3 [] := by
  refine ⟨yL_partners, cL_partners, 4, some .int, 6, 3, by decide, by decide, gl_nmL, (gb_w1 0 rfl rfl), by decide +kernel, Or.inr ⟨[(0, 9, 12, 25)], (gb_w6 68 rfl rfl), fun as S σ o h98 h99 hg => ?_, 227, rfl, rfl, (gb_w6 66 rfl rfl), (gb_w6 67 rfl rfl)⟩⟩
  clear h98 h99
  replace hg : (bif gk_eq S gaSH then cw_L_partners as S σ some else none) = some o := hg
  obtain ⟨hS, k1⟩ := gc_bif hg
  clear hg
  have e := gk_eq_eq hS
  subst e
  unfold cw_L_partners at k1
  split at k1
  · rename_i r0 a r1
    obtain ⟨hb, k2⟩ := gc_bif k1
    obtain ⟨hb0, hb1⟩ := Bool.and_eq_true_iff.mp hb
    have e0 := Nat.eq_of_beq_eq_true hb0
    have e1 := Nat.eq_of_beq_eq_true hb1
    subst e0
    subst e1
    obtain ⟨⟨q1, q2⟩, hq, k3⟩ := gc_bind k2
    cases q1 with
    | inl x =>
      have eo := Option.some.inj k3
      subst eo
      exact gl_463 hl a σ x q2 hq
    | inr E => cases k3
  · cases k1
theorem gw_Lk_464 (hl : l.stackTraces = false) : gb_Lk l D cA ad A adV gaLaw gaCostK (fun _ _ => True) RL 40 (.invokestatic 230) 464 3 [] := by
  refine ⟨yL_firstPartner, cL_firstPartner, 4, some .int, 6, 3, by decide, by decide, gl_nmL, (gb_w1 0 rfl rfl), by decide +kernel, Or.inr ⟨[(0, 9, 12, 25), (0, 9, 15, 73)], (gb_w6 75 rfl rfl), fun as S σ o h98 h99 hg => ?_, 230, rfl, rfl, (gb_w6 73 rfl rfl), (gb_w6 74 rfl rfl)⟩⟩
  clear h98 h99
  replace hg : (bif gk_eq S gaSH then cw_L_firstPartner as S σ some else none) = some o := hg
  obtain ⟨hS, k1⟩ := gc_bif hg
  clear hg
  have e := gk_eq_eq hS
  subst e
  unfold cw_L_firstPartner at k1
  split at k1
  · rename_i r0 a r1
    obtain ⟨hb, k2⟩ := gc_bif k1
    obtain ⟨hb0, hb1⟩ := Bool.and_eq_true_iff.mp hb
    have e0 := Nat.eq_of_beq_eq_true hb0
    have e1 := Nat.eq_of_beq_eq_true hb1
    subst e0
    subst e1
    obtain ⟨⟨q1, q2⟩, hq, k3⟩ := gc_bind k2
    cases q1 with
    | inl x =>
      have eo := Option.some.inj k3
      subst eo
      exact gl_464 hl a σ x q2 hq
    | inr E => cases k3
  · cases k1
theorem gw_Lk_465 (hl : l.stackTraces = false) : gb_Lk l D cA ad A adV gaLaw gaCostK (fun _ _ => True) RL 40 (.invokestatic 233) 465 3 [] := by
  refine ⟨yL_slotsFor, cL_slotsFor, 4, some .int, 6, 3, by decide, by decide, gl_nmL, (gb_w1 0 rfl rfl), by decide +kernel, Or.inr ⟨[(0, 9, 12, 25)], (gb_w6 83 rfl rfl), fun as S σ o h98 h99 hg => ?_, 233, rfl, rfl, (gb_w6 81 rfl rfl), (gb_w6 82 rfl rfl)⟩⟩
  clear h98 h99
  replace hg : (bif gk_eq S gaSH then cw_L_slotsFor as S σ some else none) = some o := hg
  obtain ⟨hS, k1⟩ := gc_bif hg
  clear hg
  have e := gk_eq_eq hS
  subst e
  unfold cw_L_slotsFor at k1
  split at k1
  · rename_i r0 a r1
    obtain ⟨hb, k2⟩ := gc_bif k1
    obtain ⟨hb0, hb1⟩ := Bool.and_eq_true_iff.mp hb
    have e0 := Nat.eq_of_beq_eq_true hb0
    have e1 := Nat.eq_of_beq_eq_true hb1
    subst e0
    subst e1
    obtain ⟨⟨q1, q2⟩, hq, k3⟩ := gc_bind k2
    cases q1 with
    | inl x =>
      have eo := Option.some.inj k3
      subst eo
      exact gl_465 hl a σ x q2 hq
    | inr E => cases k3
  · cases k1
theorem gw_Lk_466 (hl : l.stackTraces = false) : gb_Lk l D cA ad A adV gaLaw gaCostK (fun _ _ => True) RL 40 (.invokestatic 236) 466 3 [] := by
  refine ⟨yL_count, cL_count, 4, some .int, 5, 3, by decide, by decide, gl_nmL, (gb_w1 0 rfl rfl), by decide +kernel, Or.inr ⟨[(0, 9, 12, 19)], (gb_w6 91 rfl rfl), fun as S σ o h98 h99 hg => ?_, 236, rfl, rfl, (gb_w6 89 rfl rfl), (gb_w6 90 rfl rfl)⟩⟩
  clear h98 h99
  replace hg : (bif gk_eq S gaSH then cw_L_count as S σ some else none) = some o := hg
  obtain ⟨hS, k1⟩ := gc_bif hg
  clear hg
  have e := gk_eq_eq hS
  subst e
  unfold cw_L_count at k1
  split at k1
  · rename_i r0 a r1
    obtain ⟨hb, k2⟩ := gc_bif k1
    obtain ⟨hb0, hb1⟩ := Bool.and_eq_true_iff.mp hb
    have e0 := Nat.eq_of_beq_eq_true hb0
    have e1 := Nat.eq_of_beq_eq_true hb1
    subst e0
    subst e1
    obtain ⟨⟨q1, q2⟩, hq, k3⟩ := gc_bind k2
    cases q1 with
    | inl x =>
      have eo := Option.some.inj k3
      subst eo
      exact gl_466 hl a σ x q2 hq
    | inr E => cases k3
  · cases k1
theorem gw_Lk_467 (hl : l.stackTraces = false) : gb_Lk l D cA ad A adV gaLaw gaCostK (fun _ _ => True) RL 40 (.invokestatic 239) 467 4 [] := by
  refine ⟨yL_lesson, cL_lesson, 5, some .int, 4, 4, by decide, by decide, gl_nmL, (gb_w1 0 rfl rfl), by decide +kernel, Or.inr ⟨[(0, 10, 13, 25), (0, 10, 17, 19)], (gb_w6 101 rfl rfl), fun as S σ o h98 h99 hg => ?_, 239, rfl, rfl, (gb_w6 99 rfl rfl), (gb_w6 100 rfl rfl)⟩⟩
  clear h98 h99
  replace hg : (bif gk_eq S gaSH then cw_L_lesson as S σ some else none) = some o := hg
  obtain ⟨hS, k1⟩ := gc_bif hg
  clear hg
  have e := gk_eq_eq hS
  subst e
  unfold cw_L_lesson at k1
  split at k1
  · rename_i r0 a b r1
    obtain ⟨hb, k2⟩ := gc_bif k1
    obtain ⟨hb0, hb1⟩ := Bool.and_eq_true_iff.mp hb
    have e0 := Nat.eq_of_beq_eq_true hb0
    have e1 := Nat.eq_of_beq_eq_true hb1
    subst e0
    subst e1
    obtain ⟨⟨q1, q2⟩, hq, k3⟩ := gc_bind k2
    cases q1 with
    | inl x =>
      have eo := Option.some.inj k3
      subst eo
      exact gl_467 hl a b σ x q2 hq
    | inr E => cases k3
  · cases k1
theorem gw_Lk_468 (hl : l.stackTraces = false) : gb_Lk l D cA ad A adV gaLaw gaCostK (fun _ _ => True) RL 40 (.invokestatic 242) 468 4 [] := by
  refine ⟨yL_teacher, cL_teacher, 5, some .int, 4, 4, by decide, by decide, gl_nmL, (gb_w1 0 rfl rfl), by decide +kernel, Or.inr ⟨[(0, 10, 13, 25), (0, 10, 17, 19)], (gb_w6 111 rfl rfl), fun as S σ o h98 h99 hg => ?_, 242, rfl, rfl, (gb_w6 109 rfl rfl), (gb_w6 110 rfl rfl)⟩⟩
  clear h98 h99
  replace hg : (bif gk_eq S gaSH then cw_L_teacher as S σ some else none) = some o := hg
  obtain ⟨hS, k1⟩ := gc_bif hg
  clear hg
  have e := gk_eq_eq hS
  subst e
  unfold cw_L_teacher at k1
  split at k1
  · rename_i r0 a b r1
    obtain ⟨hb, k2⟩ := gc_bif k1
    obtain ⟨hb0, hb1⟩ := Bool.and_eq_true_iff.mp hb
    have e0 := Nat.eq_of_beq_eq_true hb0
    have e1 := Nat.eq_of_beq_eq_true hb1
    subst e0
    subst e1
    obtain ⟨⟨q1, q2⟩, hq, k3⟩ := gc_bind k2
    cases q1 with
    | inl x =>
      have eo := Option.some.inj k3
      subst eo
      exact gl_468 hl a b σ x q2 hq
    | inr E => cases k3
  · cases k1
theorem gw_Lk_469 (hl : l.stackTraces = false) : gb_Lk l D cA ad A adV gaLaw gaCostK (fun _ _ => True) RL 40 (.invokestatic 245) 469 4 [] := by
  refine ⟨yL_room, cL_room, 5, some .int, 3, 4, by decide, by decide, gl_nmL, (gb_w1 0 rfl rfl), by decide +kernel, Or.inr ⟨[(0, 10, 13, 25), (0, 10, 17, 19)], (gb_w6 124 rfl rfl), fun as S σ o h98 h99 hg => ?_, 245, rfl, rfl, (gb_w6 122 rfl rfl), (gb_w6 123 rfl rfl)⟩⟩
  clear h98 h99
  replace hg : (bif gk_eq S gaSH then cw_L_room as S σ some else none) = some o := hg
  obtain ⟨hS, k1⟩ := gc_bif hg
  clear hg
  have e := gk_eq_eq hS
  subst e
  unfold cw_L_room at k1
  split at k1
  · rename_i r0 a b r1
    obtain ⟨hb, k2⟩ := gc_bif k1
    obtain ⟨hb0, hb1⟩ := Bool.and_eq_true_iff.mp hb
    have e0 := Nat.eq_of_beq_eq_true hb0
    have e1 := Nat.eq_of_beq_eq_true hb1
    subst e0
    subst e1
    obtain ⟨⟨q1, q2⟩, hq, k3⟩ := gc_bind k2
    cases q1 with
    | inl x =>
      have eo := Option.some.inj k3
      subst eo
      exact gl_469 hl a b σ x q2 hq
    | inr E => cases k3
  · cases k1
theorem gw_Lk_470 (hl : l.stackTraces = false) : gb_Lk l D cA ad A adV gaLaw gaCostK (fun _ _ => True) RL 40 (.invokestatic 248) 470 4 [] := by
  refine ⟨yL_subject, cL_subject, 5, some .int, 3, 4, by decide, by decide, gl_nmL, (gb_w1 0 rfl rfl), by decide +kernel, Or.inr ⟨[(0, 10, 13, 25), (0, 10, 17, 19)], (gb_w6 132 rfl rfl), fun as S σ o h98 h99 hg => ?_, 248, rfl, rfl, (gb_w6 130 rfl rfl), (gb_w6 131 rfl rfl)⟩⟩
  clear h98 h99
  replace hg : (bif gk_eq S gaSH then cw_L_subject as S σ some else none) = some o := hg
  obtain ⟨hS, k1⟩ := gc_bif hg
  clear hg
  have e := gk_eq_eq hS
  subst e
  unfold cw_L_subject at k1
  split at k1
  · rename_i r0 a b r1
    obtain ⟨hb, k2⟩ := gc_bif k1
    obtain ⟨hb0, hb1⟩ := Bool.and_eq_true_iff.mp hb
    have e0 := Nat.eq_of_beq_eq_true hb0
    have e1 := Nat.eq_of_beq_eq_true hb1
    subst e0
    subst e1
    obtain ⟨⟨q1, q2⟩, hq, k3⟩ := gc_bind k2
    cases q1 with
    | inl x =>
      have eo := Option.some.inj k3
      subst eo
      exact gl_470 hl a b σ x q2 hq
    | inr E => cases k3
  · cases k1
theorem gw_Lk_471 (hl : l.stackTraces = false) : gb_Lk l D cA ad A adV gaLaw gaCostK (fun _ _ => True) RL 40 (.invokestatic 251) 471 4 [] := by
  refine ⟨yL_lessonOfClass, cL_lessonOfClass, 5, some .int, 4, 4, by decide, by decide, gl_nmL, (gb_w1 0 rfl rfl), by decide +kernel, Or.inr ⟨[(0, 10, 13, 25)], (gb_w6 142 rfl rfl), fun as S σ o h98 h99 hg => ?_, 251, rfl, rfl, (gb_w6 140 rfl rfl), (gb_w6 141 rfl rfl)⟩⟩
  clear h98 h99
  replace hg : (bif gk_eq S gaSH then cw_L_lessonOfClass as S σ some else none) = some o := hg
  obtain ⟨hS, k1⟩ := gc_bif hg
  clear hg
  have e := gk_eq_eq hS
  subst e
  unfold cw_L_lessonOfClass at k1
  split at k1
  · rename_i r0 a b r1
    obtain ⟨hb, k2⟩ := gc_bif k1
    obtain ⟨hb0, hb1⟩ := Bool.and_eq_true_iff.mp hb
    have e0 := Nat.eq_of_beq_eq_true hb0
    have e1 := Nat.eq_of_beq_eq_true hb1
    subst e0
    subst e1
    obtain ⟨⟨q1, q2⟩, hq, k3⟩ := gc_bind k2
    cases q1 with
    | inl x =>
      have eo := Option.some.inj k3
      subst eo
      exact gl_471 hl a b σ x q2 hq
    | inr E => cases k3
  · cases k1
theorem gw_Lk_472 (hl : l.stackTraces = false) : gb_Lk l D cA ad A adV gaLaw gaCostK (fun _ _ => True) RL 40 (.invokestatic 254) 472 4 [] := by
  refine ⟨yL_lessonOfTeacher, cL_lessonOfTeacher, 5, some .int, 4, 4, by decide, by decide, gl_nmL, (gb_w1 0 rfl rfl), by decide +kernel, Or.inr ⟨[(0, 10, 13, 25)], (gb_w6 155 rfl rfl), fun as S σ o h98 h99 hg => ?_, 254, rfl, rfl, (gb_w6 153 rfl rfl), (gb_w6 154 rfl rfl)⟩⟩
  clear h98 h99
  replace hg : (bif gk_eq S gaSH then cw_L_lessonOfTeacher as S σ some else none) = some o := hg
  obtain ⟨hS, k1⟩ := gc_bif hg
  clear hg
  have e := gk_eq_eq hS
  subst e
  unfold cw_L_lessonOfTeacher at k1
  split at k1
  · rename_i r0 a b r1
    obtain ⟨hb, k2⟩ := gc_bif k1
    obtain ⟨hb0, hb1⟩ := Bool.and_eq_true_iff.mp hb
    have e0 := Nat.eq_of_beq_eq_true hb0
    have e1 := Nat.eq_of_beq_eq_true hb1
    subst e0
    subst e1
    obtain ⟨⟨q1, q2⟩, hq, k3⟩ := gc_bind k2
    cases q1 with
    | inl x =>
      have eo := Option.some.inj k3
      subst eo
      exact gl_472 hl a b σ x q2 hq
    | inr E => cases k3
  · cases k1
theorem gw_Lk_473 (hl : l.stackTraces = false) : gb_Lk l D cA ad A adV gaLaw gaCostK (fun _ _ => True) RL 40 (.invokestatic 257) 473 4 [] := by
  refine ⟨yL_lessonInRoom, cL_lessonInRoom, 5, some .int, 4, 4, by decide, by decide, gl_nmL, (gb_w1 0 rfl rfl), by decide +kernel, Or.inr ⟨[(0, 10, 13, 25)], (gb_w6 162 rfl rfl), fun as S σ o h98 h99 hg => ?_, 257, rfl, rfl, (gb_w6 160 rfl rfl), (gb_w6 161 rfl rfl)⟩⟩
  clear h98 h99
  replace hg : (bif gk_eq S gaSH then cw_L_lessonInRoom as S σ some else none) = some o := hg
  obtain ⟨hS, k1⟩ := gc_bif hg
  clear hg
  have e := gk_eq_eq hS
  subst e
  unfold cw_L_lessonInRoom at k1
  split at k1
  · rename_i r0 a b r1
    obtain ⟨hb, k2⟩ := gc_bif k1
    obtain ⟨hb0, hb1⟩ := Bool.and_eq_true_iff.mp hb
    have e0 := Nat.eq_of_beq_eq_true hb0
    have e1 := Nat.eq_of_beq_eq_true hb1
    subst e0
    subst e1
    obtain ⟨⟨q1, q2⟩, hq, k3⟩ := gc_bind k2
    cases q1 with
    | inl x =>
      have eo := Option.some.inj k3
      subst eo
      exact gl_473 hl a b σ x q2 hq
    | inr E => cases k3
  · cases k1
theorem gw_Lk_474 (hl : l.stackTraces = false) : gb_Lk l D cA ad A adV gaLaw gaCostK (fun _ _ => True) RL 40 (.invokestatic 260) 474 3 [] := by
  refine ⟨yL_freeTeachers, cL_freeTeachers, 4, some .int, 4, 3, by decide, by decide, gl_nmL, (gb_w1 0 rfl rfl), by decide +kernel, Or.inr ⟨[(0, 9, 12, 25)], (gb_w6 169 rfl rfl), fun as S σ o h98 h99 hg => ?_, 260, rfl, rfl, (gb_w6 167 rfl rfl), (gb_w6 168 rfl rfl)⟩⟩
  clear h98 h99
  replace hg : (bif gk_eq S gaSH then cw_L_freeTeachers as S σ some else none) = some o := hg
  obtain ⟨hS, k1⟩ := gc_bif hg
  clear hg
  have e := gk_eq_eq hS
  subst e
  unfold cw_L_freeTeachers at k1
  split at k1
  · rename_i r0 a r1
    obtain ⟨hb, k2⟩ := gc_bif k1
    obtain ⟨hb0, hb1⟩ := Bool.and_eq_true_iff.mp hb
    have e0 := Nat.eq_of_beq_eq_true hb0
    have e1 := Nat.eq_of_beq_eq_true hb1
    subst e0
    subst e1
    obtain ⟨⟨q1, q2⟩, hq, k3⟩ := gc_bind k2
    cases q1 with
    | inl x =>
      have eo := Option.some.inj k3
      subst eo
      exact gl_474 hl a σ x q2 hq
    | inr E => cases k3
  · cases k1
theorem gw_Lk_475 (hl : l.stackTraces = false) : gb_Lk l D cA ad A adV gaLaw gaCostK (fun _ _ => True) RL 40 (.invokestatic 263) 475 4 [] := by
  refine ⟨yL_freeRooms, cL_freeRooms, 5, some .int, 4, 4, by decide, by decide, gl_nmL, (gb_w1 0 rfl rfl), by decide +kernel, Or.inr ⟨[(0, 10, 13, 25), (0, 10, 17, 19)], (gb_w6 177 rfl rfl), fun as S σ o h98 h99 hg => ?_, 263, rfl, rfl, (gb_w6 175 rfl rfl), (gb_w6 176 rfl rfl)⟩⟩
  clear h98 h99
  replace hg : (bif gk_eq S gaSH then cw_L_freeRooms as S σ some else none) = some o := hg
  obtain ⟨hS, k1⟩ := gc_bif hg
  clear hg
  have e := gk_eq_eq hS
  subst e
  unfold cw_L_freeRooms at k1
  split at k1
  · rename_i r0 a b r1
    obtain ⟨hb, k2⟩ := gc_bif k1
    obtain ⟨hb0, hb1⟩ := Bool.and_eq_true_iff.mp hb
    have e0 := Nat.eq_of_beq_eq_true hb0
    have e1 := Nat.eq_of_beq_eq_true hb1
    subst e0
    subst e1
    obtain ⟨⟨q1, q2⟩, hq, k3⟩ := gc_bind k2
    cases q1 with
    | inl x =>
      have eo := Option.some.inj k3
      subst eo
      exact gl_475 hl a b σ x q2 hq
    | inr E => cases k3
  · cases k1
theorem gw_Lk_476 (hl : l.stackTraces = false) : gb_Lk l D cA ad A adV gaLaw gaCostK (fun _ _ => True) RL 40 (.invokestatic 266) 476 3 [] := by
  refine ⟨yL_openLesson, cL_openLesson, 4, some .int, 3, 3, by decide, by decide, gl_nmL, (gb_w1 0 rfl rfl), by decide +kernel, Or.inr ⟨[(0, 9, 12, 73)], (gb_w6 185 rfl rfl), fun as S σ o h98 h99 hg => ?_, 266, rfl, rfl, (gb_w6 183 rfl rfl), (gb_w6 184 rfl rfl)⟩⟩
  clear h98 h99
  replace hg : (bif gk_eq S gaSH then cw_L_openLesson as S σ some else none) = some o := hg
  obtain ⟨hS, k1⟩ := gc_bif hg
  clear hg
  have e := gk_eq_eq hS
  subst e
  unfold cw_L_openLesson at k1
  split at k1
  · rename_i r0 a r1
    obtain ⟨hb, k2⟩ := gc_bif k1
    obtain ⟨hb0, hb1⟩ := Bool.and_eq_true_iff.mp hb
    have e0 := Nat.eq_of_beq_eq_true hb0
    have e1 := Nat.eq_of_beq_eq_true hb1
    subst e0
    subst e1
    obtain ⟨⟨q1, q2⟩, hq, k3⟩ := gc_bind k2
    cases q1 with
    | inl x =>
      have eo := Option.some.inj k3
      subst eo
      exact gl_476 hl a σ x q2 hq
    | inr E => cases k3
  · cases k1
theorem gw_Lk_477 (hl : l.stackTraces = false) : gb_Lk l D cA ad A adV gaLaw gaCostK (fun _ _ => True) RL 40 (.invokestatic 269) 477 3 [] := by
  refine ⟨yL_difference, cL_difference, 4, some .int, 4, 3, by decide, by decide, gl_nmL, (gb_w1 0 rfl rfl), by decide +kernel, Or.inr ⟨[(0, 9, 12, 73)], (gb_w6 194 rfl rfl), fun as S σ o h98 h99 hg => ?_, 269, rfl, rfl, (gb_w6 192 rfl rfl), (gb_w6 193 rfl rfl)⟩⟩
  clear h98 h99
  replace hg : (bif gk_eq S gaSH then cw_L_difference as S σ some else none) = some o := hg
  obtain ⟨hS, k1⟩ := gc_bif hg
  clear hg
  have e := gk_eq_eq hS
  subst e
  unfold cw_L_difference at k1
  split at k1
  · rename_i r0 a r1
    obtain ⟨hb, k2⟩ := gc_bif k1
    obtain ⟨hb0, hb1⟩ := Bool.and_eq_true_iff.mp hb
    have e0 := Nat.eq_of_beq_eq_true hb0
    have e1 := Nat.eq_of_beq_eq_true hb1
    subst e0
    subst e1
    obtain ⟨⟨q1, q2⟩, hq, k3⟩ := gc_bind k2
    cases q1 with
    | inl x =>
      have eo := Option.some.inj k3
      subst eo
      exact gl_477 hl a σ x q2 hq
    | inr E => cases k3
  · cases k1
theorem gw_Lk_478 (hl : l.stackTraces = false) : gb_Lk l D cA ad A adV gaLaw gaCostK (fun _ _ => True) RL 40 (.invokestatic 272) 478 4 [] := by
  refine ⟨yL_windows, cL_windows, 5, some .int, 4, 4, by decide, by decide, gl_nmL, (gb_w1 0 rfl rfl), by decide +kernel, Or.inr ⟨[(0, 10, 13, 25)], (gb_w6 202 rfl rfl), fun as S σ o h98 h99 hg => ?_, 272, rfl, rfl, (gb_w6 200 rfl rfl), (gb_w6 201 rfl rfl)⟩⟩
  clear h98 h99
  replace hg : (bif gk_eq S gaSH then cw_L_windows as S σ some else none) = some o := hg
  obtain ⟨hS, k1⟩ := gc_bif hg
  clear hg
  have e := gk_eq_eq hS
  subst e
  unfold cw_L_windows at k1
  split at k1
  · rename_i r0 a b r1
    obtain ⟨hb, k2⟩ := gc_bif k1
    obtain ⟨hb0, hb1⟩ := Bool.and_eq_true_iff.mp hb
    have e0 := Nat.eq_of_beq_eq_true hb0
    have e1 := Nat.eq_of_beq_eq_true hb1
    subst e0
    subst e1
    obtain ⟨⟨q1, q2⟩, hq, k3⟩ := gc_bind k2
    cases q1 with
    | inl x =>
      have eo := Option.some.inj k3
      subst eo
      exact gl_478 hl a b σ x q2 hq
    | inr E => cases k3
  · cases k1
theorem gw_Lk_479 (hl : l.stackTraces = false) : gb_Lk l D cA ad A adV gaLaw gaCostK (fun _ _ => True) RL 40 (.invokestatic 275) 479 4 [] := by
  refine ⟨yL_classWindows, cL_classWindows, 5, some .int, 4, 4, by decide, by decide, gl_nmL, (gb_w1 0 rfl rfl), by decide +kernel, Or.inr ⟨[(0, 10, 13, 25)], (gb_w6 214 rfl rfl), fun as S σ o h98 h99 hg => ?_, 275, rfl, rfl, (gb_w6 212 rfl rfl), (gb_w6 213 rfl rfl)⟩⟩
  clear h98 h99
  replace hg : (bif gk_eq S gaSH then cw_L_classWindows as S σ some else none) = some o := hg
  obtain ⟨hS, k1⟩ := gc_bif hg
  clear hg
  have e := gk_eq_eq hS
  subst e
  unfold cw_L_classWindows at k1
  split at k1
  · rename_i r0 a b r1
    obtain ⟨hb, k2⟩ := gc_bif k1
    obtain ⟨hb0, hb1⟩ := Bool.and_eq_true_iff.mp hb
    have e0 := Nat.eq_of_beq_eq_true hb0
    have e1 := Nat.eq_of_beq_eq_true hb1
    subst e0
    subst e1
    obtain ⟨⟨q1, q2⟩, hq, k3⟩ := gc_bind k2
    cases q1 with
    | inl x =>
      have eo := Option.some.inj k3
      subst eo
      exact gl_479 hl a b σ x q2 hq
    | inr E => cases k3
  · cases k1
theorem gw_Lk_480 (hl : l.stackTraces = false) : gb_Lk l D cA ad A adV gaLaw gaCostK (fun _ _ => True) RL 40 (.invokestatic 287) 480 3 [] := by
  refine ⟨yL_writeReport, cL_writeReport, 4, some .int, 5, 3, by decide, by decide, gl_nmL, (gb_w1 0 rfl rfl), by decide +kernel, Or.inr ⟨[(0, 9, 12, 25)], (gb_w6 221 rfl rfl), fun as S σ o h98 h99 hg => ?_, 287, rfl, rfl, (gb_w6 219 rfl rfl), (gb_w6 220 rfl rfl)⟩⟩
  clear h98 h99
  replace hg : (bif gk_eq S gaSH then cw_L_writeReport as S σ some else none) = some o := hg
  obtain ⟨hS, k1⟩ := gc_bif hg
  clear hg
  have e := gk_eq_eq hS
  subst e
  unfold cw_L_writeReport at k1
  split at k1
  · rename_i r0 a r1
    obtain ⟨hb, k2⟩ := gc_bif k1
    obtain ⟨hb0, hb1⟩ := Bool.and_eq_true_iff.mp hb
    have e0 := Nat.eq_of_beq_eq_true hb0
    have e1 := Nat.eq_of_beq_eq_true hb1
    subst e0
    subst e1
    obtain ⟨⟨q1, q2⟩, hq, k3⟩ := gc_bind k2
    cases q1 with
    | inl x =>
      have eo := Option.some.inj k3
      subst eo
      exact gl_480 hl a σ x q2 hq
    | inr E => cases k3
  · cases k1
theorem gw_Lk_481 (hl : l.stackTraces = false) : gb_Lk l D cA ad A adV gaLaw gaCostK (fun _ _ => True) RL 40 (.invokestatic 290) 481 3 [] := by
  refine ⟨yL_reportByte, cL_reportByte, 4, some .int, 2, 3, by decide, by decide, gl_nmL, (gb_w1 0 rfl rfl), by decide +kernel, Or.inr ⟨[(0, 9, 12, 25)], (gb_w7 5 rfl rfl), fun as S σ o h98 h99 hg => ?_, 290, rfl, rfl, (gb_w7 3 rfl rfl), (gb_w7 4 rfl rfl)⟩⟩
  clear h98 h99
  replace hg : (bif gk_eq S gaSH then cw_L_reportByte as S σ some else none) = some o := hg
  obtain ⟨hS, k1⟩ := gc_bif hg
  clear hg
  have e := gk_eq_eq hS
  subst e
  unfold cw_L_reportByte at k1
  split at k1
  · rename_i r0 a r1
    obtain ⟨hb, k2⟩ := gc_bif k1
    obtain ⟨hb0, hb1⟩ := Bool.and_eq_true_iff.mp hb
    have e0 := Nat.eq_of_beq_eq_true hb0
    have e1 := Nat.eq_of_beq_eq_true hb1
    subst e0
    subst e1
    obtain ⟨⟨q1, q2⟩, hq, k3⟩ := gc_bind k2
    cases q1 with
    | inl x =>
      have eo := Option.some.inj k3
      subst eo
      exact gl_481 hl a σ x q2 hq
    | inr E => cases k3
  · cases k1
theorem gw_Lk_482 (hl : l.stackTraces = false) : gb_Lk l D cA ad A adV gaLaw gaCostK (fun _ _ => True) RL 40 (.invokestatic 293) 482 2 [] := by
  refine ⟨yL_undo, cL_undo, 3, some .int, 4, 2, by decide, by decide, gl_nmL, (gb_w1 0 rfl rfl), by decide +kernel, Or.inr ⟨[(0, 8, 11, 13)], (gb_w7 13 rfl rfl), fun as S σ o h98 h99 hg => ?_, 293, rfl, rfl, (gb_w7 11 rfl rfl), (gb_w7 12 rfl rfl)⟩⟩
  clear h98 h99
  replace hg : (bif gk_eq S gaSH then cw_L_undo as S σ some else none) = some o := hg
  obtain ⟨hS, k1⟩ := gc_bif hg
  clear hg
  have e := gk_eq_eq hS
  subst e
  unfold cw_L_undo at k1
  split at k1
  · rename_i r0 r1
    obtain ⟨hb, k2⟩ := gc_bif k1
    obtain ⟨hb0, hb1⟩ := Bool.and_eq_true_iff.mp hb
    have e0 := Nat.eq_of_beq_eq_true hb0
    have e1 := Nat.eq_of_beq_eq_true hb1
    subst e0
    subst e1
    obtain ⟨⟨q1, q2⟩, hq, k3⟩ := gc_bind k2
    cases q1 with
    | inl x =>
      have eo := Option.some.inj k3
      subst eo
      exact gl_482 hl σ x q2 hq
    | inr E => cases k3
  · cases k1
def gw_rows : List (Instr × Nat × Nat × List (Int32 × Nat)) := [(.invokespecial 136, 494, 1, []),
  (.invokespecial 139, 495, 1, []),
  (.invokestatic 140, 445, 7, []),
  (.invokevirtual 145, 9, 6, [(0, 12)]),
  (.invokevirtual 146, 245, 1, [(0, 12)]),
  (.invokestatic 149, 446, 3, []),
  (.invokevirtual 152, 11, 2, [(0, 12)]),
  (.invokevirtual 153, 54, 1, [(0, 11)]),
  (.invokevirtual 156, 75, 1, [(0, 12)]),
  (.invokevirtual 157, 124, 1, [(0, 11)]),
  (.invokevirtual 160, 168, 1, [(0, 12)]),
  (.invokevirtual 161, 169, 1, [(0, 11)]),
  (.invokevirtual 164, 170, 1, [(0, 12)]),
  (.invokevirtual 165, 171, 1, [(0, 11)]),
  (.invokevirtual 168, 172, 1, [(0, 12)]),
  (.invokestatic 169, 447, 5, []),
  (.invokevirtual 172, 175, 4, [(0, 12)]),
  (.invokestatic 173, 448, 4, []),
  (.invokevirtual 176, 176, 3, [(0, 12)]),
  (.invokestatic 177, 449, 4, []),
  (.invokevirtual 179, 178, 3, [(0, 12)]),
  (.invokestatic 180, 450, 3, []),
  (.invokevirtual 182, 179, 2, [(0, 12)]),
  (.invokevirtual 183, 180, 1, [(0, 11)]),
  (.invokevirtual 186, 181, 1, [(0, 12)]),
  (.invokestatic 187, 451, 4, []),
  (.invokevirtual 189, 182, 3, [(0, 12)]),
  (.invokestatic 190, 452, 4, []),
  (.invokevirtual 192, 183, 3, [(0, 12)]),
  (.invokestatic 193, 453, 4, []),
  (.invokevirtual 195, 184, 3, [(0, 12)]),
  (.invokestatic 196, 454, 3, []),
  (.invokevirtual 198, 185, 2, [(0, 12)]),
  (.invokevirtual 199, 188, 1, [(0, 11)]),
  (.invokevirtual 202, 191, 1, [(0, 12)]),
  (.invokestatic 203, 455, 4, []),
  (.invokevirtual 205, 192, 3, [(0, 12)]),
  (.invokestatic 206, 456, 4, []),
  (.invokevirtual 208, 193, 3, [(0, 12)]),
  (.invokestatic 209, 457, 4, []),
  (.invokevirtual 211, 194, 3, [(0, 12)]),
  (.invokestatic 212, 458, 4, []),
  (.invokevirtual 214, 195, 3, [(0, 12)]),
  (.invokestatic 215, 459, 4, []),
  (.invokevirtual 217, 196, 3, [(0, 12)]),
  (.invokestatic 218, 460, 3, []),
  (.invokevirtual 220, 197, 2, [(0, 12)]),
  (.invokestatic 221, 461, 3, []),
  (.invokevirtual 223, 198, 2, [(0, 12)]),
  (.invokestatic 224, 462, 4, []),
  (.invokevirtual 226, 199, 3, [(0, 12)]),
  (.invokestatic 227, 463, 3, []),
  (.invokevirtual 229, 201, 2, [(0, 12)]),
  (.invokestatic 230, 464, 3, []),
  (.invokevirtual 232, 202, 2, [(0, 12)]),
  (.invokestatic 233, 465, 3, []),
  (.invokevirtual 235, 203, 2, [(0, 12)]),
  (.invokestatic 236, 466, 3, []),
  (.invokevirtual 238, 209, 2, [(0, 12)]),
  (.invokestatic 239, 467, 4, []),
  (.invokevirtual 241, 210, 3, [(0, 12)]),
  (.invokestatic 242, 468, 4, []),
  (.invokevirtual 244, 212, 3, [(0, 12)]),
  (.invokestatic 245, 469, 4, []),
  (.invokevirtual 247, 213, 3, [(0, 12)]),
  (.invokestatic 248, 470, 4, []),
  (.invokevirtual 250, 214, 3, [(0, 12)]),
  (.invokestatic 251, 471, 4, []),
  (.invokevirtual 253, 216, 3, [(0, 12)]),
  (.invokestatic 254, 472, 4, []),
  (.invokevirtual 256, 217, 3, [(0, 12)]),
  (.invokestatic 257, 473, 4, []),
  (.invokevirtual 259, 218, 3, [(0, 12)]),
  (.invokestatic 260, 474, 3, []),
  (.invokevirtual 262, 219, 2, [(0, 12)]),
  (.invokestatic 263, 475, 4, []),
  (.invokevirtual 265, 220, 3, [(0, 12)]),
  (.invokestatic 266, 476, 3, []),
  (.invokevirtual 268, 222, 2, [(0, 12)]),
  (.invokestatic 269, 477, 3, []),
  (.invokevirtual 271, 223, 2, [(0, 12)]),
  (.invokestatic 272, 478, 4, []),
  (.invokevirtual 274, 226, 3, [(0, 12)]),
  (.invokestatic 275, 479, 4, []),
  (.invokevirtual 277, 227, 3, [(0, 12)]),
  (.invokevirtual 278, 229, 1, [(0, 11)]),
  (.invokevirtual 281, 230, 1, [(0, 12)]),
  (.invokevirtual 282, 232, 1, [(0, 11)]),
  (.invokevirtual 286, 233, 1, [(0, 12)]),
  (.invokestatic 287, 480, 3, []),
  (.invokevirtual 289, 239, 2, [(0, 12)]),
  (.invokestatic 290, 481, 3, []),
  (.invokevirtual 292, 240, 2, [(0, 12)]),
  (.invokestatic 293, 482, 2, []),
  (.invokevirtual 296, 242, 1, [(0, 12)]),
  (.invokevirtual 297, 243, 1, [(0, 11)]),
  (.invokevirtual 300, 244, 1, [(0, 12)])]
set_option maxRecDepth 100000 in
theorem gw_rows_ok (hl : l.stackTraces = false) : ∀ r ∈ gw_rows, gb_Lk l D cA ad A adV gaLaw gaCostK (fun _ _ => True) RL 40 r.1 r.2.1 r.2.2.1 r.2.2.2 := List.forall_mem_cons.mpr ⟨gk_LkI (lv := 8) (n := 0) (maxL := 1) (by decide) (by decide) gq_nmX11 (gb_w1 1 rfl rfl) (by decide +kernel) (gb_w1 30 rfl rfl) (fun as S σ o hg => gq_X11_init hl hg) rfl rfl (Or.inl (gb_w1 28 rfl rfl)) (gb_w1 29 rfl rfl),
  List.forall_mem_cons.mpr ⟨gk_LkI (lv := 4) (n := 0) (maxL := 1) (by decide) (by decide) gq_nmX12 (gb_w1 13 rfl rfl) (by decide +kernel) (gb_w7 28 rfl rfl) (fun as S σ o hg => gq_X12_init hl hg) rfl rfl (Or.inl (gb_w7 26 rfl rfl)) (gb_w7 27 rfl rfl),
  List.forall_mem_cons.mpr ⟨gw_Lk_445 hl,
  List.forall_mem_cons.mpr ⟨gw_LkX (gm_9 hl) (by decide +kernel) rfl (by decide +kernel) (by decide +kernel) (by decide +kernel) (by decide +kernel) (gb_w8 76 rfl rfl),
  List.forall_mem_cons.mpr ⟨gw_LkX (gm_245 hl) (by decide +kernel) rfl (by decide +kernel) (by decide +kernel) (by decide +kernel) (by decide +kernel) (gb_w7 99 rfl rfl),
  List.forall_mem_cons.mpr ⟨gw_Lk_446 hl,
  List.forall_mem_cons.mpr ⟨gw_LkX (gm_11 hl) (by decide +kernel) rfl (by decide +kernel) (by decide +kernel) (by decide +kernel) (by decide +kernel) (gb_w8 84 rfl rfl),
  List.forall_mem_cons.mpr ⟨gw_LkX (gm_54 hl) (by decide +kernel) rfl (by decide +kernel) (by decide +kernel) (by decide +kernel) (by decide +kernel) (gb_w2 235 rfl rfl),
  List.forall_mem_cons.mpr ⟨gw_LkX (gm_75 hl) (by decide +kernel) rfl (by decide +kernel) (by decide +kernel) (by decide +kernel) (by decide +kernel) (gb_w8 88 rfl rfl),
  List.forall_mem_cons.mpr ⟨gw_LkX (gm_124 hl) (by decide +kernel) rfl (by decide +kernel) (by decide +kernel) (by decide +kernel) (by decide +kernel) (gb_w3 192 rfl rfl),
  List.forall_mem_cons.mpr ⟨gw_LkX (gm_168 hl) (by decide +kernel) rfl (by decide +kernel) (by decide +kernel) (by decide +kernel) (by decide +kernel) (gb_w8 183 rfl rfl),
  List.forall_mem_cons.mpr ⟨gw_LkX (gm_169 hl) (by decide +kernel) rfl (by decide +kernel) (by decide +kernel) (by decide +kernel) (by decide +kernel) (gb_w4 183 rfl rfl),
  List.forall_mem_cons.mpr ⟨gw_LkX (gm_170 hl) (by decide +kernel) rfl (by decide +kernel) (by decide +kernel) (by decide +kernel) (by decide +kernel) (gb_w8 175 rfl rfl),
  List.forall_mem_cons.mpr ⟨gw_LkX (gm_171 hl) (by decide +kernel) rfl (by decide +kernel) (by decide +kernel) (by decide +kernel) (by decide +kernel) (gb_w4 187 rfl rfl),
  List.forall_mem_cons.mpr ⟨gw_LkX (gm_172 hl) (by decide +kernel) rfl (by decide +kernel) (by decide +kernel) (by decide +kernel) (by decide +kernel) (gb_w8 179 rfl rfl),
  List.forall_mem_cons.mpr ⟨gw_Lk_447 hl,
  List.forall_mem_cons.mpr ⟨gw_LkX (gm_175 hl) (by decide +kernel) rfl (by decide +kernel) (by decide +kernel) (by decide +kernel) (by decide +kernel) (gb_w7 115 rfl rfl),
  List.forall_mem_cons.mpr ⟨gw_Lk_448 hl,
  List.forall_mem_cons.mpr ⟨gw_LkX (gm_176 hl) (by decide +kernel) rfl (by decide +kernel) (by decide +kernel) (by decide +kernel) (by decide +kernel) (gb_w7 157 rfl rfl),
  List.forall_mem_cons.mpr ⟨gw_Lk_449 hl,
  List.forall_mem_cons.mpr ⟨gw_LkX (gm_178 hl) (by decide +kernel) rfl (by decide +kernel) (by decide +kernel) (by decide +kernel) (by decide +kernel) (gb_w7 212 rfl rfl),
  List.forall_mem_cons.mpr ⟨gw_Lk_450 hl,
  List.forall_mem_cons.mpr ⟨gw_LkX (gm_179 hl) (by decide +kernel) rfl (by decide +kernel) (by decide +kernel) (by decide +kernel) (by decide +kernel) (gb_w7 224 rfl rfl),
  List.forall_mem_cons.mpr ⟨gw_LkX (gm_180 hl) (by decide +kernel) rfl (by decide +kernel) (by decide +kernel) (by decide +kernel) (by decide +kernel) (gb_w4 191 rfl rfl),
  List.forall_mem_cons.mpr ⟨gw_LkX (gm_181 hl) (by decide +kernel) rfl (by decide +kernel) (by decide +kernel) (by decide +kernel) (by decide +kernel) (gb_w8 4 rfl rfl),
  List.forall_mem_cons.mpr ⟨gw_Lk_451 hl,
  List.forall_mem_cons.mpr ⟨gw_LkX (gm_182 hl) (by decide +kernel) rfl (by decide +kernel) (by decide +kernel) (by decide +kernel) (by decide +kernel) (gb_w8 12 rfl rfl),
  List.forall_mem_cons.mpr ⟨gw_Lk_452 hl,
  List.forall_mem_cons.mpr ⟨gw_LkX (gm_183 hl) (by decide +kernel) rfl (by decide +kernel) (by decide +kernel) (by decide +kernel) (by decide +kernel) (gb_w8 28 rfl rfl),
  List.forall_mem_cons.mpr ⟨gw_Lk_453 hl,
  List.forall_mem_cons.mpr ⟨gw_LkX (gm_184 hl) (by decide +kernel) rfl (by decide +kernel) (by decide +kernel) (by decide +kernel) (by decide +kernel) (gb_w8 48 rfl rfl),
  List.forall_mem_cons.mpr ⟨gw_Lk_454 hl,
  List.forall_mem_cons.mpr ⟨gw_LkX (gm_185 hl) (by decide +kernel) rfl (by decide +kernel) (by decide +kernel) (by decide +kernel) (by decide +kernel) (gb_w8 60 rfl rfl),
  List.forall_mem_cons.mpr ⟨gw_LkX (gm_188 hl) (by decide +kernel) rfl (by decide +kernel) (by decide +kernel) (by decide +kernel) (by decide +kernel) (gb_w4 196 rfl rfl),
  List.forall_mem_cons.mpr ⟨gw_LkX (gm_191 hl) (by decide +kernel) rfl (by decide +kernel) (by decide +kernel) (by decide +kernel) (by decide +kernel) (gb_w8 64 rfl rfl),
  List.forall_mem_cons.mpr ⟨gw_Lk_455 hl,
  List.forall_mem_cons.mpr ⟨gw_LkX (gm_192 hl) (by decide +kernel) rfl (by decide +kernel) (by decide +kernel) (by decide +kernel) (by decide +kernel) (gb_w8 216 rfl rfl),
  List.forall_mem_cons.mpr ⟨gw_Lk_456 hl,
  List.forall_mem_cons.mpr ⟨gw_LkX (gm_193 hl) (by decide +kernel) rfl (by decide +kernel) (by decide +kernel) (by decide +kernel) (by decide +kernel) (gb_w8 220 rfl rfl),
  List.forall_mem_cons.mpr ⟨gw_Lk_457 hl,
  List.forall_mem_cons.mpr ⟨gw_LkX (gm_194 hl) (by decide +kernel) rfl (by decide +kernel) (by decide +kernel) (by decide +kernel) (by decide +kernel) (gb_w8 224 rfl rfl),
  List.forall_mem_cons.mpr ⟨gw_Lk_458 hl,
  List.forall_mem_cons.mpr ⟨gw_LkX (gm_195 hl) (by decide +kernel) rfl (by decide +kernel) (by decide +kernel) (by decide +kernel) (by decide +kernel) (gb_w8 228 rfl rfl),
  List.forall_mem_cons.mpr ⟨gw_Lk_459 hl,
  List.forall_mem_cons.mpr ⟨gw_LkX (gm_196 hl) (by decide +kernel) rfl (by decide +kernel) (by decide +kernel) (by decide +kernel) (by decide +kernel) (gb_w8 232 rfl rfl),
  List.forall_mem_cons.mpr ⟨gw_Lk_460 hl,
  List.forall_mem_cons.mpr ⟨gw_LkX (gm_197 hl) (by decide +kernel) rfl (by decide +kernel) (by decide +kernel) (by decide +kernel) (by decide +kernel) (gb_w8 236 rfl rfl),
  List.forall_mem_cons.mpr ⟨gw_Lk_461 hl,
  List.forall_mem_cons.mpr ⟨gw_LkX (gm_198 hl) (by decide +kernel) rfl (by decide +kernel) (by decide +kernel) (by decide +kernel) (by decide +kernel) (gb_w9 0 rfl rfl),
  List.forall_mem_cons.mpr ⟨gw_Lk_462 hl,
  List.forall_mem_cons.mpr ⟨gw_LkX (gm_199 hl) (by decide +kernel) rfl (by decide +kernel) (by decide +kernel) (by decide +kernel) (by decide +kernel) (gb_w9 4 rfl rfl),
  List.forall_mem_cons.mpr ⟨gw_Lk_463 hl,
  List.forall_mem_cons.mpr ⟨gw_LkX (gm_201 hl) (by decide +kernel) rfl (by decide +kernel) (by decide +kernel) (by decide +kernel) (by decide +kernel) (gb_w9 8 rfl rfl),
  List.forall_mem_cons.mpr ⟨gw_Lk_464 hl,
  List.forall_mem_cons.mpr ⟨gw_LkX (gm_202 hl) (by decide +kernel) rfl (by decide +kernel) (by decide +kernel) (by decide +kernel) (by decide +kernel) (gb_w9 16 rfl rfl),
  List.forall_mem_cons.mpr ⟨gw_Lk_465 hl,
  List.forall_mem_cons.mpr ⟨gw_LkX (gm_203 hl) (by decide +kernel) rfl (by decide +kernel) (by decide +kernel) (by decide +kernel) (by decide +kernel) (gb_w9 20 rfl rfl),
  List.forall_mem_cons.mpr ⟨gw_Lk_466 hl,
  List.forall_mem_cons.mpr ⟨gw_LkX (gm_209 hl) (by decide +kernel) rfl (by decide +kernel) (by decide +kernel) (by decide +kernel) (by decide +kernel) (gb_w9 24 rfl rfl),
  List.forall_mem_cons.mpr ⟨gw_Lk_467 hl,
  List.forall_mem_cons.mpr ⟨gw_LkX (gm_210 hl) (by decide +kernel) rfl (by decide +kernel) (by decide +kernel) (by decide +kernel) (by decide +kernel) (gb_w9 37 rfl rfl),
  List.forall_mem_cons.mpr ⟨gw_Lk_468 hl,
  List.forall_mem_cons.mpr ⟨gw_LkX (gm_212 hl) (by decide +kernel) rfl (by decide +kernel) (by decide +kernel) (by decide +kernel) (by decide +kernel) (gb_w9 41 rfl rfl),
  List.forall_mem_cons.mpr ⟨gw_Lk_469 hl,
  List.forall_mem_cons.mpr ⟨gw_LkX (gm_213 hl) (by decide +kernel) rfl (by decide +kernel) (by decide +kernel) (by decide +kernel) (by decide +kernel) (gb_w9 46 rfl rfl),
  List.forall_mem_cons.mpr ⟨gw_Lk_470 hl,
  List.forall_mem_cons.mpr ⟨gw_LkX (gm_214 hl) (by decide +kernel) rfl (by decide +kernel) (by decide +kernel) (by decide +kernel) (by decide +kernel) (gb_w9 50 rfl rfl),
  List.forall_mem_cons.mpr ⟨gw_Lk_471 hl,
  List.forall_mem_cons.mpr ⟨gw_LkX (gm_216 hl) (by decide +kernel) rfl (by decide +kernel) (by decide +kernel) (by decide +kernel) (by decide +kernel) (gb_w9 55 rfl rfl),
  List.forall_mem_cons.mpr ⟨gw_Lk_472 hl,
  List.forall_mem_cons.mpr ⟨gw_LkX (gm_217 hl) (by decide +kernel) rfl (by decide +kernel) (by decide +kernel) (by decide +kernel) (by decide +kernel) (gb_w9 63 rfl rfl),
  List.forall_mem_cons.mpr ⟨gw_Lk_473 hl,
  List.forall_mem_cons.mpr ⟨gw_LkX (gm_218 hl) (by decide +kernel) rfl (by decide +kernel) (by decide +kernel) (by decide +kernel) (by decide +kernel) (gb_w9 67 rfl rfl),
  List.forall_mem_cons.mpr ⟨gw_Lk_474 hl,
  List.forall_mem_cons.mpr ⟨gw_LkX (gm_219 hl) (by decide +kernel) rfl (by decide +kernel) (by decide +kernel) (by decide +kernel) (by decide +kernel) (gb_w9 71 rfl rfl),
  List.forall_mem_cons.mpr ⟨gw_Lk_475 hl,
  List.forall_mem_cons.mpr ⟨gw_LkX (gm_220 hl) (by decide +kernel) rfl (by decide +kernel) (by decide +kernel) (by decide +kernel) (by decide +kernel) (gb_w9 75 rfl rfl),
  List.forall_mem_cons.mpr ⟨gw_Lk_476 hl,
  List.forall_mem_cons.mpr ⟨gw_LkX (gm_222 hl) (by decide +kernel) rfl (by decide +kernel) (by decide +kernel) (by decide +kernel) (by decide +kernel) (gb_w9 80 rfl rfl),
  List.forall_mem_cons.mpr ⟨gw_Lk_477 hl,
  List.forall_mem_cons.mpr ⟨gw_LkX (gm_223 hl) (by decide +kernel) rfl (by decide +kernel) (by decide +kernel) (by decide +kernel) (by decide +kernel) (gb_w9 88 rfl rfl),
  List.forall_mem_cons.mpr ⟨gw_Lk_478 hl,
  List.forall_mem_cons.mpr ⟨gw_LkX (gm_226 hl) (by decide +kernel) rfl (by decide +kernel) (by decide +kernel) (by decide +kernel) (by decide +kernel) (gb_w9 92 rfl rfl),
  List.forall_mem_cons.mpr ⟨gw_Lk_479 hl,
  List.forall_mem_cons.mpr ⟨gw_LkX (gm_227 hl) (by decide +kernel) rfl (by decide +kernel) (by decide +kernel) (by decide +kernel) (by decide +kernel) (gb_w9 100 rfl rfl),
  List.forall_mem_cons.mpr ⟨gw_LkX (gm_229 hl) (by decide +kernel) rfl (by decide +kernel) (by decide +kernel) (by decide +kernel) (by decide +kernel) (gb_w4 209 rfl rfl),
  List.forall_mem_cons.mpr ⟨gw_LkX (gm_230 hl) (by decide +kernel) rfl (by decide +kernel) (by decide +kernel) (by decide +kernel) (by decide +kernel) (gb_w9 104 rfl rfl),
  List.forall_mem_cons.mpr ⟨gw_LkX (gm_232 hl) (by decide +kernel) rfl (by decide +kernel) (by decide +kernel) (by decide +kernel) (by decide +kernel) (gb_w4 219 rfl rfl),
  List.forall_mem_cons.mpr ⟨gw_LkX (gm_233 hl) (by decide +kernel) rfl (by decide +kernel) (by decide +kernel) (by decide +kernel) (by decide +kernel) (gb_w9 108 rfl rfl),
  List.forall_mem_cons.mpr ⟨gw_Lk_480 hl,
  List.forall_mem_cons.mpr ⟨gw_LkX (gm_239 hl) (by decide +kernel) rfl (by decide +kernel) (by decide +kernel) (by decide +kernel) (by decide +kernel) (gb_w9 112 rfl rfl),
  List.forall_mem_cons.mpr ⟨gw_Lk_481 hl,
  List.forall_mem_cons.mpr ⟨gw_LkX (gm_240 hl) (by decide +kernel) rfl (by decide +kernel) (by decide +kernel) (by decide +kernel) (by decide +kernel) (gb_w9 124 rfl rfl),
  List.forall_mem_cons.mpr ⟨gw_Lk_482 hl,
  List.forall_mem_cons.mpr ⟨gw_LkX (gm_242 hl) (by decide +kernel) rfl (by decide +kernel) (by decide +kernel) (by decide +kernel) (by decide +kernel) (gb_w7 103 rfl rfl),
  List.forall_mem_cons.mpr ⟨gw_LkX (gm_243 hl) (by decide +kernel) rfl (by decide +kernel) (by decide +kernel) (by decide +kernel) (by decide +kernel) (gb_w4 239 rfl rfl),
  List.forall_mem_cons.mpr ⟨gw_LkX (gm_244 hl) (by decide +kernel) rfl (by decide +kernel) (by decide +kernel) (by decide +kernel) (by decide +kernel) (gb_w7 111 rfl rfl),
  fun _ h => nomatch h⟩⟩⟩⟩⟩⟩⟩⟩⟩⟩⟩⟩⟩⟩⟩⟩⟩⟩⟩⟩⟩⟩⟩⟩⟩⟩⟩⟩⟩⟩⟩⟩⟩⟩⟩⟩⟩⟩⟩⟩⟩⟩⟩⟩⟩⟩⟩⟩⟩⟩⟩⟩⟩⟩⟩⟩⟩⟩⟩⟩⟩⟩⟩⟩⟩⟩⟩⟩⟩⟩⟩⟩⟩⟩⟩⟩⟩⟩⟩⟩⟩⟩⟩⟩⟩⟩⟩⟩⟩⟩⟩⟩⟩⟩⟩⟩⟩
theorem gw_cr0 : gw_cl0.all (gk_cr gw_rows) = true := by decide +kernel
theorem gw_nt0 : gw_cl0.all gk_nt = true := by decide +kernel
theorem gw_cr1 : gw_cl1.all (gk_cr gw_rows) = true := by decide +kernel
theorem gw_nt1 : gw_cl1.all gk_nt = true := by decide +kernel
theorem gw_cr2 : gw_cl2.all (gk_cr gw_rows) = true := by decide +kernel
theorem gw_nt2 : gw_cl2.all gk_nt = true := by decide +kernel
theorem gw_cr3 : gw_cl3.all (gk_cr gw_rows) = true := by decide +kernel
theorem gw_nt3 : gw_cl3.all gk_nt = true := by decide +kernel
theorem gw_cr4 : gw_cl4.all (gk_cr gw_rows) = true := by decide +kernel
theorem gw_nt4 : gw_cl4.all gk_nt = true := by decide +kernel
theorem gw_cr5 : gw_cl5.all (gk_cr gw_rows) = true := by decide +kernel
theorem gw_nt5 : gw_cl5.all gk_nt = true := by decide +kernel
theorem gw_cr6 : gw_cl6.all (gk_cr gw_rows) = true := by decide +kernel
theorem gw_nt6 : gw_cl6.all gk_nt = true := by decide +kernel
theorem gw_cr7 : gw_cl7.all (gk_cr gw_rows) = true := by decide +kernel
theorem gw_nt7 : gw_cl7.all gk_nt = true := by decide +kernel
theorem gw_cr8 : gw_cl8.all (gk_cr gw_rows) = true := by decide +kernel
theorem gw_nt8 : gw_cl8.all gk_nt = true := by decide +kernel
theorem gw_cr9 : gw_cl9.all (gk_cr gw_rows) = true := by decide +kernel
theorem gw_nt9 : gw_cl9.all gk_nt = true := by decide +kernel
theorem gw_cr10 : gw_cl10.all (gk_cr gw_rows) = true := by decide +kernel
theorem gw_nt10 : gw_cl10.all gk_nt = true := by decide +kernel
theorem gw_cr11 : gw_cl11.all (gk_cr gw_rows) = true := by decide +kernel
theorem gw_nt11 : gw_cl11.all gk_nt = true := by decide +kernel
theorem gw_cr12 : gw_cl12.all (gk_cr gw_rows) = true := by decide +kernel
theorem gw_nt12 : gw_cl12.all gk_nt = true := by decide +kernel
theorem gw_cr13 : gw_cl13.all (gk_cr gw_rows) = true := by decide +kernel
theorem gw_nt13 : gw_cl13.all gk_nt = true := by decide +kernel
theorem gw_cr14 : gw_cl14.all (gk_cr gw_rows) = true := by decide +kernel
theorem gw_nt14 : gw_cl14.all gk_nt = true := by decide +kernel
theorem gw_cr15 : gw_cl15.all (gk_cr gw_rows) = true := by decide +kernel
theorem gw_nt15 : gw_cl15.all gk_nt = true := by decide +kernel
theorem gw_cr16 : gw_cl16.all (gk_cr gw_rows) = true := by decide +kernel
theorem gw_nt16 : gw_cl16.all gk_nt = true := by decide +kernel
theorem gw_cr17 : gw_cl17.all (gk_cr gw_rows) = true := by decide +kernel
theorem gw_nt17 : gw_cl17.all gk_nt = true := by decide +kernel
theorem gw_cr18 : gw_cl18.all (gk_cr gw_rows) = true := by decide +kernel
theorem gw_nt18 : gw_cl18.all gk_nt = true := by decide +kernel
theorem gw_cr19 : gw_cl19.all (gk_cr gw_rows) = true := by decide +kernel
theorem gw_nt19 : gw_cl19.all gk_nt = true := by decide +kernel
theorem gw_cr20 : gw_cl20.all (gk_cr gw_rows) = true := by decide +kernel
theorem gw_nt20 : gw_cl20.all gk_nt = true := by decide +kernel
theorem gw_cr21 : gw_cl21.all (gk_cr gw_rows) = true := by decide +kernel
theorem gw_nt21 : gw_cl21.all gk_nt = true := by decide +kernel
theorem gw_cr22 : gw_cl22.all (gk_cr gw_rows) = true := by decide +kernel
theorem gw_nt22 : gw_cl22.all gk_nt = true := by decide +kernel
theorem gw_cr23 : gw_cl23.all (gk_cr gw_rows) = true := by decide +kernel
theorem gw_nt23 : gw_cl23.all gk_nt = true := by decide +kernel
theorem gw_cr24 : gw_cl24.all (gk_cr gw_rows) = true := by decide +kernel
theorem gw_nt24 : gw_cl24.all gk_nt = true := by decide +kernel
theorem gw_cr25 : gw_cl25.all (gk_cr gw_rows) = true := by decide +kernel
theorem gw_nt25 : gw_cl25.all gk_nt = true := by decide +kernel
theorem gw_cr26 : gw_cl26.all (gk_cr gw_rows) = true := by decide +kernel
theorem gw_nt26 : gw_cl26.all gk_nt = true := by decide +kernel
theorem gw_cr27 : gw_cl27.all (gk_cr gw_rows) = true := by decide +kernel
theorem gw_nt27 : gw_cl27.all gk_nt = true := by decide +kernel
theorem gw_cr28 : gw_cl28.all (gk_cr gw_rows) = true := by decide +kernel
theorem gw_nt28 : gw_cl28.all gk_nt = true := by decide +kernel
theorem gw_cr29 : gw_cl29.all (gk_cr gw_rows) = true := by decide +kernel
theorem gw_nt29 : gw_cl29.all gk_nt = true := by decide +kernel
theorem gw_cr30 : gw_cl30.all (gk_cr gw_rows) = true := by decide +kernel
theorem gw_nt30 : gw_cl30.all gk_nt = true := by decide +kernel
theorem gw_cr31 : gw_cl31.all (gk_cr gw_rows) = true := by decide +kernel
theorem gw_nt31 : gw_cl31.all gk_nt = true := by decide +kernel
theorem gw_cr32 : gw_cl32.all (gk_cr gw_rows) = true := by decide +kernel
theorem gw_nt32 : gw_cl32.all gk_nt = true := by decide +kernel
theorem gw_cr33 : gw_cl33.all (gk_cr gw_rows) = true := by decide +kernel
theorem gw_nt33 : gw_cl33.all gk_nt = true := by decide +kernel
theorem gw_cr34 : gw_cl34.all (gk_cr gw_rows) = true := by decide +kernel
theorem gw_nt34 : gw_cl34.all gk_nt = true := by decide +kernel
theorem gw_cr35 : gw_cl35.all (gk_cr gw_rows) = true := by decide +kernel
theorem gw_nt35 : gw_cl35.all gk_nt = true := by decide +kernel
theorem gw_cr36 : gw_cl36.all (gk_cr gw_rows) = true := by decide +kernel
theorem gw_nt36 : gw_cl36.all gk_nt = true := by decide +kernel
theorem gw_cr37 : gw_cl37.all (gk_cr gw_rows) = true := by decide +kernel
theorem gw_nt37 : gw_cl37.all gk_nt = true := by decide +kernel
theorem gw_cr38 : gw_cl38.all (gk_cr gw_rows) = true := by decide +kernel
theorem gw_nt38 : gw_cl38.all gk_nt = true := by decide +kernel
theorem gw_cr39 : gw_cl39.all (gk_cr gw_rows) = true := by decide +kernel
theorem gw_nt39 : gw_cl39.all gk_nt = true := by decide +kernel
theorem gw_cr40 : gw_cl40.all (gk_cr gw_rows) = true := by decide +kernel
theorem gw_nt40 : gw_cl40.all gk_nt = true := by decide +kernel
theorem gw_cr41 : gw_cl41.all (gk_cr gw_rows) = true := by decide +kernel
theorem gw_nt41 : gw_cl41.all gk_nt = true := by decide +kernel
theorem gw_cr42 : gw_cl42.all (gk_cr gw_rows) = true := by decide +kernel
theorem gw_nt42 : gw_cl42.all gk_nt = true := by decide +kernel
theorem gw_crA : ∀ i, (gw_chs i).all (gk_cr gw_rows) = true := fun i => match i with
  | 0 => gw_cr0
  | 1 => gw_cr1
  | 2 => gw_cr2
  | 3 => gw_cr3
  | 4 => gw_cr4
  | 5 => gw_cr5
  | 6 => gw_cr6
  | 7 => gw_cr7
  | 8 => gw_cr8
  | 9 => gw_cr9
  | 10 => gw_cr10
  | 11 => gw_cr11
  | 12 => gw_cr12
  | 13 => gw_cr13
  | 14 => gw_cr14
  | 15 => gw_cr15
  | 16 => gw_cr16
  | 17 => gw_cr17
  | 18 => gw_cr18
  | 19 => gw_cr19
  | 20 => gw_cr20
  | 21 => gw_cr21
  | 22 => gw_cr22
  | 23 => gw_cr23
  | 24 => gw_cr24
  | 25 => gw_cr25
  | 26 => gw_cr26
  | 27 => gw_cr27
  | 28 => gw_cr28
  | 29 => gw_cr29
  | 30 => gw_cr30
  | 31 => gw_cr31
  | 32 => gw_cr32
  | 33 => gw_cr33
  | 34 => gw_cr34
  | 35 => gw_cr35
  | 36 => gw_cr36
  | 37 => gw_cr37
  | 38 => gw_cr38
  | 39 => gw_cr39
  | 40 => gw_cr40
  | 41 => gw_cr41
  | 42 => gw_cr42
  | m + 43 => rfl
theorem gw_ntA : ∀ i, (gw_chs i).all gk_nt = true := fun i => match i with
  | 0 => gw_nt0
  | 1 => gw_nt1
  | 2 => gw_nt2
  | 3 => gw_nt3
  | 4 => gw_nt4
  | 5 => gw_nt5
  | 6 => gw_nt6
  | 7 => gw_nt7
  | 8 => gw_nt8
  | 9 => gw_nt9
  | 10 => gw_nt10
  | 11 => gw_nt11
  | 12 => gw_nt12
  | 13 => gw_nt13
  | 14 => gw_nt14
  | 15 => gw_nt15
  | 16 => gw_nt16
  | 17 => gw_nt17
  | 18 => gw_nt18
  | 19 => gw_nt19
  | 20 => gw_nt20
  | 21 => gw_nt21
  | 22 => gw_nt22
  | 23 => gw_nt23
  | 24 => gw_nt24
  | 25 => gw_nt25
  | 26 => gw_nt26
  | 27 => gw_nt27
  | 28 => gw_nt28
  | 29 => gw_nt29
  | 30 => gw_nt30
  | 31 => gw_nt31
  | 32 => gw_nt32
  | 33 => gw_nt33
  | 34 => gw_nt34
  | 35 => gw_nt35
  | 36 => gw_nt36
  | 37 => gw_nt37
  | 38 => gw_nt38
  | 39 => gw_nt39
  | 40 => gw_nt40
  | 41 => gw_nt41
  | 42 => gw_nt42
  | m + 43 => rfl
end GW2
end
