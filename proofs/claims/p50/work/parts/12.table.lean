noncomputable section
def c_X6_at {α : Type} (as : List Value) (S : ga_S) (s : ga_M) (K : ga_O → Option α) : Option α := match as with
  | [.ref r, .int i] => (match S[r]? with
    | some (.inl (6, [some (some a)])) => (match S[a]? with
      | some (.inr (0, n)) => K (.inl (some (.int (ga_at a n i s))), S, s)
      | _ => none)
    | _ => none)
  | _ => none
def c_X6_put {α : Type} (as : List Value) (S : ga_S) (s : ga_M) (K : ga_O → Option α) : Option α := match as with
  | [.ref r, .int i, .int x] => (match S[r]? with
    | some (.inl (6, [some (some a)])) => (match S[a]? with
      | some (.inr (0, n)) => K (.inl none, S, ga_pt a n i x s)
      | _ => none)
    | _ => none)
  | _ => none
def c_X6_become {α : Type} (as : List Value) (S : ga_S) (s : ga_M) (K : ga_O → Option α) : Option α := match as with
  | [.ref r, .ref q] => (match S[r]? with
    | some (.inl (6, [some (some a)])) => (match S[a]? with
      | some (.inr (0, n)) => (match S[q]? with
        | some (.inl (6, [some (some b)])) => (match S[b]? with
          | some (.inr (0, n2)) => K (.inl none, S, ga_bc a n b n2 s)
          | _ => none)
        | _ => none)
      | _ => none)
    | _ => none)
  | _ => none
def c_J0_length_8abf5 {α : Type} (as : List Value) (S : ga_S) (s : ga_M) (K : ga_O → Option α) : Option α := match as with
  | [.ref w] => (ga_sl w s).bind fun x => K (.inl (some (.int x)), S, s)
  | _ => none
def c_J0_charAt_5068e {α : Type} (as : List Value) (S : ga_S) (s : ga_M) (K : ga_O → Option α) : Option α := match as with
  | [.ref w, .int i] => (ga_sc w i s).bind fun x => K (.inl (some (.int x)), S, s)
  | _ => none
def c_X10_append {α : Type} (as : List Value) (S : ga_S) (s : ga_M) (K : ga_O → Option α) : Option α := match as with
  | [.ref r0, .int a] => bif Nat.beq r0 45 then (f_X10_append a s).bind fun s1 => K (.inl none, S, s1) else none
  | _ => none
def c_X11_appendText {α : Type} (as : List Value) (S : ga_S) (s : ga_M) (K : ga_O → Option α) : Option α := match as with
  | [.ref r0, .int a, .int b, .int c, .int d, .int e] => bif Nat.beq r0 0 then (f_X11_appendText a b c d e s).bind fun q => Sum.elim (fun x => K (.inl (some (.int x)), S, q.2)) (fun E => K (.inr E, S, q.2)) q.1 else none
  | _ => none
def c_X11_truncateText {α : Type} (as : List Value) (S : ga_S) (s : ga_M) (K : ga_O → Option α) : Option α := match as with
  | [.ref r0, .int a] => bif Nat.beq r0 0 then (f_X11_truncateText a s).bind fun q => Sum.elim (fun x => K (.inl (some (.int x)), S, q.2)) (fun E => K (.inr E, S, q.2)) q.1 else none
  | _ => none
def c_X7_becomeEmpty {α : Type} (as : List Value) (S : ga_S) (s : ga_M) (K : ga_O → Option α) : Option α := match as with
  | [.ref r0] => bif Nat.beq r0 49 then K (.inl none, S, v_X7_becomeEmpty_49 s) else bif Nat.beq r0 1 then K (.inl none, S, v_X7_becomeEmpty s) else none
  | _ => none
def c_X10_afterBlanks {α : Type} (as : List Value) (S : ga_S) (s : ga_M) (K : ga_O → Option α) : Option α := match as with
  | [.ref r0, .int a] => bif Nat.beq r0 45 then (f_X10_afterBlanks a s).bind fun x => K (.inl (some (.int x)), S, s) else none
  | _ => none
def c_X10_isLetter {α : Type} (as : List Value) (S : ga_S) (s : ga_M) (K : ga_O → Option α) : Option α := match as with
  | [.int a] => K (.inl (some (.int (v_X10_isLetter a s))), S, s)
  | _ => none
def c_X10_isDigit {α : Type} (as : List Value) (S : ga_S) (s : ga_M) (K : ga_O → Option α) : Option α := match as with
  | [.int a] => K (.inl (some (.int (v_X10_isDigit a s))), S, s)
  | _ => none
def c_J9_min_7cf53 {α : Type} (as : List Value) (S : ga_S) (s : ga_M) (K : ga_O → Option α) : Option α := match as with
  | [.int a, .int b] => K (.inl (some (.int (v_J9_min_7cf53 a b s))), S, s)
  | _ => none
def c_X10_afterDigits {α : Type} (as : List Value) (S : ga_S) (s : ga_M) (K : ga_O → Option α) : Option α := match as with
  | [.ref r0, .int a] => bif Nat.beq r0 45 then (f_X10_afterDigits a s).bind fun q => K (.inl (some (.int q.1)), S, q.2) else none
  | _ => none
def c_X10_afterLetters {α : Type} (as : List Value) (S : ga_S) (s : ga_M) (K : ga_O → Option α) : Option α := match as with
  | [.ref r0, .int a] => bif Nat.beq r0 45 then (f_X10_afterLetters a s).bind fun x => K (.inl (some (.int x)), S, s) else none
  | _ => none
def c_X10_next {α : Type} (as : List Value) (S : ga_S) (s : ga_M) (K : ga_O → Option α) : Option α := match as with
  | [.ref r0] => bif Nat.beq r0 45 then (f_X10_next s).bind fun s1 => K (.inl none, S, s1) else none
  | _ => none
def c_X10_begin {α : Type} (as : List Value) (S : ga_S) (s : ga_M) (K : ga_O → Option α) : Option α := match as with
  | [.ref r0] => bif Nat.beq r0 45 then (f_X10_begin s).bind fun s1 => K (.inl none, S, s1) else none
  | _ => none
def c_X10_isWord {α : Type} (as : List Value) (S : ga_S) (s : ga_M) (K : ga_O → Option α) : Option α := match as with
  | [.ref r0, .ref a] => bif Nat.beq r0 45 then (f_X10_isWord a s).bind fun x => K (.inl (some (.int x)), S, s) else none
  | _ => none
def c_X10_fail {α : Type} (as : List Value) (S : ga_S) (s : ga_M) (K : ga_O → Option α) : Option α := match as with
  | [.ref r0, .int a, .int b] => bif Nat.beq r0 45 then K (.inl (some (.int (v_X10_fail a b s).1)), S, (v_X10_fail a b s).2) else none
  | _ => none
def c_X8_fail {α : Type} (as : List Value) (S : ga_S) (s : ga_M) (K : ga_O → Option α) : Option α := match as with
  | [.ref r0, .int a] => bif Nat.beq r0 48 then K (.inl (some (.int (v_X8_fail a s).1)), S, (v_X8_fail a s).2) else none
  | _ => none
def c_X8_takeWord {α : Type} (as : List Value) (S : ga_S) (s : ga_M) (K : ga_O → Option α) : Option α := match as with
  | [.ref r0, .ref a] => bif Nat.beq r0 48 then (f_X8_takeWord a s).bind fun q => K (.inl (some (.int q.1)), S, q.2) else none
  | _ => none
def c_X8_checkNumber {α : Type} (as : List Value) (S : ga_S) (s : ga_M) (K : ga_O → Option α) : Option α := match as with
  | [.ref r0, .int a, .int b] => bif Nat.beq r0 48 then K (.inl (some (.int (v_X8_checkNumber a b s).1)), S, (v_X8_checkNumber a b s).2) else none
  | _ => none
def c_X8_takeNumber {α : Type} (as : List Value) (S : ga_S) (s : ga_M) (K : ga_O → Option α) : Option α := match as with
  | [.ref r0] => bif Nat.beq r0 48 then (f_X8_takeNumber s).bind fun q => K (.inl (some (.int q.1)), S, q.2) else none
  | _ => none
def c_X8_takeSemicolon {α : Type} (as : List Value) (S : ga_S) (s : ga_M) (K : ga_O → Option α) : Option α := match as with
  | [.ref r0] => bif Nat.beq r0 48 then (f_X8_takeSemicolon s).bind fun q => K (.inl (some (.int q.1)), S, q.2) else none
  | _ => none
def c_X8_readGrid {α : Type} (as : List Value) (S : ga_S) (s : ga_M) (K : ga_O → Option α) : Option α := match as with
  | [.ref r0] => bif Nat.beq r0 48 then (f_X8_readGrid s).bind fun q => K (.inl (some (.int q.1)), S, q.2) else none
  | _ => none
def c_X7_addSubject {α : Type} (as : List Value) (S : ga_S) (s : ga_M) (K : ga_O → Option α) : Option α := match as with
  | [.ref r0, .int a] => bif Nat.beq r0 49 then K (.inl none, S, v_X7_addSubject_49 a s) else bif Nat.beq r0 1 then K (.inl none, S, v_X7_addSubject a s) else none
  | _ => none
def c_X8_readSubjects {α : Type} (as : List Value) (S : ga_S) (s : ga_M) (K : ga_O → Option α) : Option α := match as with
  | [.ref r0] => bif Nat.beq r0 48 then (f_X8_readSubjects s).bind fun q => K (.inl (some (.int q.1)), S, q.2) else none
  | _ => none
def c_X7_addTeacher {α : Type} (as : List Value) (S : ga_S) (s : ga_M) (K : ga_O → Option α) : Option α := match as with
  | [.ref r0, .int a, .int b] => bif Nat.beq r0 49 then K (.inl none, S, v_X7_addTeacher_49 a b s) else bif Nat.beq r0 1 then K (.inl none, S, v_X7_addTeacher a b s) else none
  | _ => none
def c_X11_hasBit {α : Type} (as : List Value) (S : ga_S) (s : ga_M) (K : ga_O → Option α) : Option α := match as with
  | [.int a, .int b] => K (.inl (some (.int (v_X11_hasBit a b s))), S, s)
  | _ => none
def c_X8_readTeacher {α : Type} (as : List Value) (S : ga_S) (s : ga_M) (K : ga_O → Option α) : Option α := match as with
  | [.ref r0] => bif Nat.beq r0 48 then (f_X8_readTeacher s).bind fun q => K (.inl (some (.int q.1)), S, q.2) else none
  | _ => none
def c_X8_readTeachers {α : Type} (as : List Value) (S : ga_S) (s : ga_M) (K : ga_O → Option α) : Option α := match as with
  | [.ref r0] => bif Nat.beq r0 48 then (f_X8_readTeachers s).bind fun q => K (.inl (some (.int q.1)), S, q.2) else none
  | _ => none
def c_X7_addRoom {α : Type} (as : List Value) (S : ga_S) (s : ga_M) (K : ga_O → Option α) : Option α := match as with
  | [.ref r0, .int a] => bif Nat.beq r0 49 then K (.inl none, S, v_X7_addRoom_49 a s) else bif Nat.beq r0 1 then K (.inl none, S, v_X7_addRoom a s) else none
  | _ => none
def c_X8_readRooms {α : Type} (as : List Value) (S : ga_S) (s : ga_M) (K : ga_O → Option α) : Option α := match as with
  | [.ref r0] => bif Nat.beq r0 48 then (f_X8_readRooms s).bind fun q => K (.inl (some (.int q.1)), S, q.2) else none
  | _ => none
def c_X8_readClasses {α : Type} (as : List Value) (S : ga_S) (s : ga_M) (K : ga_O → Option α) : Option α := match as with
  | [.ref r0] => bif Nat.beq r0 48 then (f_X8_readClasses s).bind fun q => K (.inl (some (.int q.1)), S, q.2) else none
  | _ => none
def c_X7_slots {α : Type} (as : List Value) (S : ga_S) (s : ga_M) (K : ga_O → Option α) : Option α := match as with
  | [.ref r0] => bif Nat.beq r0 49 then K (.inl (some (.int (v_X7_slots_49 s))), S, s) else bif Nat.beq r0 1 then K (.inl (some (.int (v_X7_slots s))), S, s) else none
  | _ => none
def c_X7_isTakenAtFirst {α : Type} (as : List Value) (S : ga_S) (s : ga_M) (K : ga_O → Option α) : Option α := match as with
  | [.ref r0, .int a, .ref r1, .int b] => bif Nat.beq r0 49 && Nat.beq r1 58 then (f_X7_isTakenAtFirst_49_58 a b s).bind fun x => K (.inl (some (.int x)), S, s) else bif Nat.beq r0 49 && Nat.beq r1 64 then (f_X7_isTakenAtFirst_49_64 a b s).bind fun x => K (.inl (some (.int x)), S, s) else bif Nat.beq r0 49 && Nat.beq r1 66 then (f_X7_isTakenAtFirst_49_66 a b s).bind fun x => K (.inl (some (.int x)), S, s) else none
  | _ => none
def c_X8_checkUntaken {α : Type} (as : List Value) (S : ga_S) (s : ga_M) (K : ga_O → Option α) : Option α := match as with
  | [.ref r0, .int a, .ref r1, .int b] => bif Nat.beq r0 48 && Nat.beq r1 58 then (f_X8_checkUntaken_58 a b s).bind fun q => K (.inl (some (.int q.1)), S, q.2) else bif Nat.beq r0 48 && Nat.beq r1 64 then (f_X8_checkUntaken_64 a b s).bind fun q => K (.inl (some (.int q.1)), S, q.2) else bif Nat.beq r0 48 && Nat.beq r1 66 then (f_X8_checkUntaken_66 a b s).bind fun q => K (.inl (some (.int q.1)), S, q.2) else none
  | _ => none
def c_X7_hasTeacher {α : Type} (as : List Value) (S : ga_S) (s : ga_M) (K : ga_O → Option α) : Option α := match as with
  | [.ref r0, .int a] => bif Nat.beq r0 49 then K (.inl (some (.int (v_X7_hasTeacher_49 a s))), S, s) else bif Nat.beq r0 1 then K (.inl (some (.int (v_X7_hasTeacher a s))), S, s) else none
  | _ => none
def c_X7_isQualified {α : Type} (as : List Value) (S : ga_S) (s : ga_M) (K : ga_O → Option α) : Option α := match as with
  | [.ref r0, .int a, .int b] => bif Nat.beq r0 49 then K (.inl (some (.int (v_X7_isQualified_49 a b s))), S, s) else bif Nat.beq r0 1 then K (.inl (some (.int (v_X7_isQualified a b s))), S, s) else none
  | _ => none
def c_X7_addLesson {α : Type} (as : List Value) (S : ga_S) (s : ga_M) (K : ga_O → Option α) : Option α := match as with
  | [.ref r0, .int a, .int b, .int c, .int d, .int e] => bif Nat.beq r0 49 then K (.inl none, S, v_X7_addLesson_49 a b c d e s) else bif Nat.beq r0 1 then K (.inl none, S, v_X7_addLesson a b c d e s) else none
  | _ => none
def c_X8_readLesson {α : Type} (as : List Value) (S : ga_S) (s : ga_M) (K : ga_O → Option α) : Option α := match as with
  | [.ref r0] => bif Nat.beq r0 48 then (f_X8_readLesson s).bind fun q => K (.inl (some (.int q.1)), S, q.2) else none
  | _ => none
def c_X8_readLessons {α : Type} (as : List Value) (S : ga_S) (s : ga_M) (K : ga_O → Option α) : Option α := match as with
  | [.ref r0] => bif Nat.beq r0 48 then (f_X8_readLessons s).bind fun q => K (.inl (some (.int q.1)), S, q.2) else none
  | _ => none
def c_X8_read {α : Type} (as : List Value) (S : ga_S) (s : ga_M) (K : ga_O → Option α) : Option α := match as with
  | [.ref r0] => bif Nat.beq r0 48 then (f_X8_read s).bind fun q => K (.inl (some (.int q.1)), S, q.2) else none
  | _ => none
def c_X7_become {α : Type} (as : List Value) (S : ga_S) (s : ga_M) (K : ga_O → Option α) : Option α := match as with
  | [.ref r0, .ref r1] => bif Nat.beq r0 1 && Nat.beq r1 49 then K (.inl none, S, v_X7_become_49 s) else none
  | _ => none
def c_X7_dayOf {α : Type} (as : List Value) (S : ga_S) (s : ga_M) (K : ga_O → Option α) : Option α := match as with
  | [.ref r0, .int a] => bif Nat.beq r0 1 then (f_X7_dayOf a s).bind fun x => K (.inl (some (.int x)), S, s) else none
  | _ => none
def c_X3_isAway {α : Type} (as : List Value) (S : ga_S) (s : ga_M) (K : ga_O → Option α) : Option α := match as with
  | [.ref r0, .int a, .int b] => bif Nat.beq r0 20 then K (.inl (some (.int (v_X3_isAway a b s))), S, s) else none
  | _ => none
def c_X3_isAwayAt {α : Type} (as : List Value) (S : ga_S) (s : ga_M) (K : ga_O → Option α) : Option α := match as with
  | [.ref r0, .int a, .int b] => bif Nat.beq r0 20 then (f_X3_isAwayAt a b s).bind fun x => K (.inl (some (.int x)), S, s) else none
  | _ => none
def c_X3_returnToFirst {α : Type} (as : List Value) (S : ga_S) (s : ga_M) (K : ga_O → Option α) : Option α := match as with
  | [.ref r0] => bif Nat.beq r0 20 then (f_X3_returnToFirst s).bind fun s1 => K (.inl none, S, s1) else none
  | _ => none
def c_X3_begin {α : Type} (as : List Value) (S : ga_S) (s : ga_M) (K : ga_O → Option α) : Option α := match as with
  | [.ref r0] => bif Nat.beq r0 20 then (f_X3_begin s).bind fun s1 => K (.inl none, S, s1) else none
  | _ => none
def c_X1_forget {α : Type} (as : List Value) (S : ga_S) (s : ga_M) (K : ga_O → Option α) : Option α := match as with
  | [.ref r0] => bif Nat.beq r0 42 then K (.inl none, S, v_X1_forget s) else none
  | _ => none
def c_X11_parseSchool {α : Type} (as : List Value) (S : ga_S) (s : ga_M) (K : ga_O → Option α) : Option α := match as with
  | [.ref r0] => bif Nat.beq r0 0 then (f_X11_parseSchool s).bind fun q => K (.inl (some (.int q.1)), S, q.2) else none
  | _ => none
def c_X11_requireTeacher {α : Type} (as : List Value) (S : ga_S) (s : ga_M) (K : ga_O → Option α) : Option α := match as with
  | [.ref r0, .int a] => bif Nat.beq r0 0 then Option.elim (v_X11_requireTeacher a s) (K (.inl none, S, s)) fun E => K (.inr E, S, s) else none
  | _ => none
def c_X7_hasDay {α : Type} (as : List Value) (S : ga_S) (s : ga_M) (K : ga_O → Option α) : Option α := match as with
  | [.ref r0, .int a] => bif Nat.beq r0 1 then K (.inl (some (.int (v_X7_hasDay a s))), S, s) else none
  | _ => none
def c_X11_requireDay {α : Type} (as : List Value) (S : ga_S) (s : ga_M) (K : ga_O → Option α) : Option α := match as with
  | [.ref r0, .int a] => bif Nat.beq r0 0 then Option.elim (v_X11_requireDay a s) (K (.inl none, S, s)) fun E => K (.inr E, S, s) else none
  | _ => none
def c_X1_baseOf {α : Type} (as : List Value) (S : ga_S) (s : ga_M) (K : ga_O → Option α) : Option α := match as with
  | [.ref r0, .int a] => bif Nat.beq r0 42 then (f_X1_baseOf a s).bind fun x => K (.inl (some (.int x)), S, s) else none
  | _ => none
def c_X1_mark {α : Type} (as : List Value) (S : ga_S) (s : ga_M) (K : ga_O → Option α) : Option α := match as with
  | [.ref r0] => bif Nat.beq r0 42 then (f_X1_mark s).bind fun s1 => K (.inl none, S, s1) else none
  | _ => none
def c_X3_makeOpen {α : Type} (as : List Value) (S : ga_S) (s : ga_M) (K : ga_O → Option α) : Option α := match as with
  | [.ref r0, .int a] => bif Nat.beq r0 20 then K (.inl none, S, v_X3_makeOpen a s) else none
  | _ => none
def c_X2_letBeAbsent {α : Type} (as : List Value) (S : ga_S) (s : ga_M) (K : ga_O → Option α) : Option α := match as with
  | [.ref r0, .int a, .int b, .int c] => bif Nat.beq r0 41 then (f_X2_letBeAbsent a b c s).bind fun q => K (.inl (some (.int q.1)), S, q.2) else none
  | _ => none
def c_X1_keepMarked {α : Type} (as : List Value) (S : ga_S) (s : ga_M) (K : ga_O → Option α) : Option α := match as with
  | [.ref r0] => bif Nat.beq r0 42 then (f_X1_keepMarked s).bind fun s1 => K (.inl none, S, s1) else none
  | _ => none
def c_X11_setAbsent {α : Type} (as : List Value) (S : ga_S) (s : ga_M) (K : ga_O → Option α) : Option α := match as with
  | [.ref r0, .int a, .int b, .int c] => bif Nat.beq r0 0 then (f_X11_setAbsent a b c s).bind fun q => Sum.elim (fun x => K (.inl (some (.int x)), S, q.2)) (fun E => K (.inr E, S, q.2)) q.1 else none
  | _ => none
def c_X7_hasLesson {α : Type} (as : List Value) (S : ga_S) (s : ga_M) (K : ga_O → Option α) : Option α := match as with
  | [.ref r0, .int a] => bif Nat.beq r0 1 then K (.inl (some (.int (v_X7_hasLesson a s))), S, s) else none
  | _ => none
def c_X11_requireLesson {α : Type} (as : List Value) (S : ga_S) (s : ga_M) (K : ga_O → Option α) : Option α := match as with
  | [.ref r0, .int a] => bif Nat.beq r0 0 then Option.elim (v_X11_requireLesson a s) (K (.inl none, S, s)) fun E => K (.inr E, S, s) else none
  | _ => none
def c_X3_isTaught {α : Type} (as : List Value) (S : ga_S) (s : ga_M) (K : ga_O → Option α) : Option α := match as with
  | [.ref r0, .int a] => bif Nat.beq r0 20 then K (.inl (some (.int (v_X3_isTaught a s))), S, s) else none
  | _ => none
def c_X3_lessonAt {α : Type} (as : List Value) (S : ga_S) (s : ga_M) (K : ga_O → Option α) : Option α := match as with
  | [.ref r0, .int a, .ref r1, .int b] => bif Nat.beq r0 20 && Nat.beq r1 23 then (f_X3_lessonAt_23 a b s).bind fun x => K (.inl (some (.int x)), S, s) else bif Nat.beq r0 20 && Nat.beq r1 25 then (f_X3_lessonAt_25 a b s).bind fun x => K (.inl (some (.int x)), S, s) else bif Nat.beq r0 20 && Nat.beq r1 10 then (f_X3_lessonAt_10 a b s).bind fun x => K (.inl (some (.int x)), S, s) else none
  | _ => none
def c_X4_isBusy {α : Type} (as : List Value) (S : ga_S) (s : ga_M) (K : ga_O → Option α) : Option α := match as with
  | [.ref r0, .int a, .int b] => bif Nat.beq r0 31 then (f_X4_isBusy a b s).bind fun x => K (.inl (some (.int x)), S, s) else none
  | _ => none
def c_X3_loadOf {α : Type} (as : List Value) (S : ga_S) (s : ga_M) (K : ga_O → Option α) : Option α := match as with
  | [.ref r0, .int a] => bif Nat.beq r0 20 then (f_X3_loadOf a s).bind fun x => K (.inl (some (.int x)), S, s) else none
  | _ => none
def c_X4_againstCover {α : Type} (as : List Value) (S : ga_S) (s : ga_M) (K : ga_O → Option α) : Option α := match as with
  | [.ref r0, .int a, .int b] => bif Nat.beq r0 31 then (f_X4_againstCover a b s).bind fun x => K (.inl (some (.int x)), S, s) else none
  | _ => none
def c_X3_letTeach {α : Type} (as : List Value) (S : ga_S) (s : ga_M) (K : ga_O → Option α) : Option α := match as with
  | [.ref r0, .int a, .int b] => bif Nat.beq r0 20 then K (.inl none, S, v_X3_letTeach a b s) else none
  | _ => none
def c_X2_letCover {α : Type} (as : List Value) (S : ga_S) (s : ga_M) (K : ga_O → Option α) : Option α := match as with
  | [.ref r0, .int a, .int b] => bif Nat.beq r0 41 then (f_X2_letCover a b s).bind fun q => K (.inl (some (.int q.1)), S, q.2) else none
  | _ => none
def c_X11_keepUnlessRefused {α : Type} (as : List Value) (S : ga_S) (s : ga_M) (K : ga_O → Option α) : Option α := match as with
  | [.ref r0, .int a] => bif Nat.beq r0 0 then (f_X11_keepUnlessRefused a s).bind fun q => Option.elim q.1 (K (.inl none, S, q.2)) fun E => K (.inr E, S, q.2) else none
  | _ => none
def c_X11_cover {α : Type} (as : List Value) (S : ga_S) (s : ga_M) (K : ga_O → Option α) : Option α := match as with
  | [.ref r0, .int a, .int b] => bif Nat.beq r0 0 then (f_X11_cover a b s).bind fun q => Sum.elim (fun x => K (.inl (some (.int x)), S, q.2)) (fun E => K (.inr E, S, q.2)) q.1 else none
  | _ => none
def c_X3_isOpen {α : Type} (as : List Value) (S : ga_S) (s : ga_M) (K : ga_O → Option α) : Option α := match as with
  | [.ref r0, .int a] => bif Nat.beq r0 20 then K (.inl (some (.int (v_X3_isOpen a s))), S, s) else none
  | _ => none
def c_X3_isSupervised {α : Type} (as : List Value) (S : ga_S) (s : ga_M) (K : ga_O → Option α) : Option α := match as with
  | [.ref r0, .int a] => bif Nat.beq r0 20 then K (.inl (some (.int (v_X3_isSupervised a s))), S, s) else none
  | _ => none
def c_X3_dutiesOn {α : Type} (as : List Value) (S : ga_S) (s : ga_M) (K : ga_O → Option α) : Option α := match as with
  | [.ref r0, .int a, .int b] => bif Nat.beq r0 20 then (f_X3_dutiesOn a b s).bind fun x => K (.inl (some (.int x)), S, s) else none
  | _ => none
def c_X4_againstSupervision {α : Type} (as : List Value) (S : ga_S) (s : ga_M) (K : ga_O → Option α) : Option α := match as with
  | [.ref r0, .int a, .int b] => bif Nat.beq r0 31 then (f_X4_againstSupervision a b s).bind fun x => K (.inl (some (.int x)), S, s) else none
  | _ => none
def c_X3_letWatch {α : Type} (as : List Value) (S : ga_S) (s : ga_M) (K : ga_O → Option α) : Option α := match as with
  | [.ref r0, .int a, .int b] => bif Nat.beq r0 20 then K (.inl none, S, v_X3_letWatch a b s) else none
  | _ => none
def c_X2_letSupervise {α : Type} (as : List Value) (S : ga_S) (s : ga_M) (K : ga_O → Option α) : Option α := match as with
  | [.ref r0, .int a, .int b] => bif Nat.beq r0 41 then (f_X2_letSupervise a b s).bind fun q => K (.inl (some (.int q.1)), S, q.2) else none
  | _ => none
def c_X3_dutiesOf {α : Type} (as : List Value) (S : ga_S) (s : ga_M) (K : ga_O → Option α) : Option α := match as with
  | [.ref r0, .int a] => bif Nat.beq r0 20 then (f_X3_dutiesOf a s).bind fun x => K (.inl (some (.int x)), S, s) else none
  | _ => none
def c_X11_supervise {α : Type} (as : List Value) (S : ga_S) (s : ga_M) (K : ga_O → Option α) : Option α := match as with
  | [.ref r0, .int a, .int b] => bif Nat.beq r0 0 then (f_X11_supervise a b s).bind fun q => Sum.elim (fun x => K (.inl (some (.int x)), S, q.2)) (fun E => K (.inr E, S, q.2)) q.1 else none
  | _ => none
def c_X0_presentAt {α : Type} (as : List Value) (S : ga_S) (s : ga_M) (K : ga_O → Option α) : Option α := match as with
  | [.ref r0, .int a] => bif Nat.beq r0 32 then (f_X0_presentAt a s).bind fun x => K (.inl (some (.int x)), S, s) else none
  | _ => none
def c_X7_qualifiedFor {α : Type} (as : List Value) (S : ga_S) (s : ga_M) (K : ga_O → Option α) : Option α := match as with
  | [.ref r0, .int a] => bif Nat.beq r0 1 then (f_X7_qualifiedFor a s).bind fun x => K (.inl (some (.int x)), S, s) else none
  | _ => none
def c_X0_busyAt {α : Type} (as : List Value) (S : ga_S) (s : ga_M) (K : ga_O → Option α) : Option α := match as with
  | [.ref r0, .int a, .int b] => bif Nat.beq r0 32 then (f_X0_busyAt a b s).bind fun q => K (.inl (some (.int q.1)), S, q.2) else none
  | _ => none
def c_X0_leastLoaded {α : Type} (as : List Value) (S : ga_S) (s : ga_M) (K : ga_O → Option α) : Option α := match as with
  | [.ref r0, .int a] => bif Nat.beq r0 32 then (f_X0_leastLoaded a s).bind fun x => K (.inl (some (.int x)), S, s) else none
  | _ => none
def c_X0_successorsOf {α : Type} (as : List Value) (S : ga_S) (s : ga_M) (K : ga_O → Option α) : Option α := match as with
  | [.ref r0, .int a] => bif Nat.beq r0 32 then (f_X0_successorsOf a s).bind fun x => K (.inl (some (.int x)), S, s) else none
  | _ => none
def c_X0_thoseBefore {α : Type} (as : List Value) (S : ga_S) (s : ga_M) (K : ga_O → Option α) : Option α := match as with
  | [.ref r0, .int a, .int b] => bif Nat.beq r0 32 then (f_X0_thoseBefore a b s).bind fun x => K (.inl (some (.int x)), S, s) else none
  | _ => none
def c_X0_lowest {α : Type} (as : List Value) (S : ga_S) (s : ga_M) (K : ga_O → Option α) : Option α := match as with
  | [.ref r0, .int a] => bif Nat.beq r0 32 then (f_X0_lowest a s).bind fun x => K (.inl (some (.int x)), S, s) else none
  | _ => none
def c_X0_choose {α : Type} (as : List Value) (S : ga_S) (s : ga_M) (K : ga_O → Option α) : Option α := match as with
  | [.ref r0, .int a] => bif Nat.beq r0 32 then (f_X0_choose a s).bind fun s1 => K (.inl none, S, s1) else none
  | _ => none
def c_X0_find {α : Type} (as : List Value) (S : ga_S) (s : ga_M) (K : ga_O → Option α) : Option α := match as with
  | [.ref r0, .int a] => bif Nat.beq r0 32 then (f_X0_find a s).bind fun q => K (.inl (some (.int q.1)), S, q.2) else none
  | _ => none
def c_X2_repairByChain {α : Type} (as : List Value) (S : ga_S) (s : ga_M) (K : ga_O → Option α) : Option α := match as with
  | [.ref r0, .int a] => bif Nat.beq r0 41 then (f_X2_repairByChain a s).bind fun q => K (.inl (some (.int q.1)), S, q.2) else none
  | _ => none
def c_X11_repair {α : Type} (as : List Value) (S : ga_S) (s : ga_M) (K : ga_O → Option α) : Option α := match as with
  | [.ref r0, .int a] => bif Nat.beq r0 0 then (f_X11_repair a s).bind fun q => Sum.elim (fun x => K (.inl (some (.int x)), S, q.2)) (fun E => K (.inr E, S, q.2)) q.1 else none
  | _ => none
def c_X2_repairOpenLessons {α : Type} (as : List Value) (S : ga_S) (s : ga_M) (K : ga_O → Option α) : Option α := match as with
  | [.ref r0] => bif Nat.beq r0 41 then (f_X2_repairOpenLessons s).bind fun q => K (.inl (some (.int q.1)), S, q.2) else none
  | _ => none
def c_X11_repairAll {α : Type} (as : List Value) (S : ga_S) (s : ga_M) (K : ga_O → Option α) : Option α := match as with
  | [.ref r0] => bif Nat.beq r0 0 then (f_X11_repairAll s).bind fun q => K (.inl (some (.int q.1)), S, q.2) else none
  | _ => none
def c_X4_isTeacherAwayAt {α : Type} (as : List Value) (S : ga_S) (s : ga_M) (K : ga_O → Option α) : Option α := match as with
  | [.ref r0, .int a, .int b] => bif Nat.beq r0 31 then (f_X4_isTeacherAwayAt a b s).bind fun x => K (.inl (some (.int x)), S, s) else none
  | _ => none
def c_X4_isHeldByThird {α : Type} (as : List Value) (S : ga_S) (s : ga_M) (K : ga_O → Option α) : Option α := match as with
  | [.ref r0, .ref r1, .int a, .int b] => bif Nat.beq r0 31 && Nat.beq r1 23 then (f_X4_isHeldByThird_23 a b s).bind fun x => K (.inl (some (.int x)), S, s) else bif Nat.beq r0 31 && Nat.beq r1 25 then (f_X4_isHeldByThird_25 a b s).bind fun x => K (.inl (some (.int x)), S, s) else none
  | _ => none
def c_X4_againstExchange {α : Type} (as : List Value) (S : ga_S) (s : ga_M) (K : ga_O → Option α) : Option α := match as with
  | [.ref r0, .int a, .int b] => bif Nat.beq r0 31 then (f_X4_againstExchange a b s).bind fun x => K (.inl (some (.int x)), S, s) else none
  | _ => none
def c_X2_swapSlots {α : Type} (as : List Value) (S : ga_S) (s : ga_M) (K : ga_O → Option α) : Option α := match as with
  | [.ref r0, .int a, .int b] => bif Nat.beq r0 41 then (f_X2_swapSlots a b s).bind fun q => K (.inl (some (.int q.1)), S, q.2) else none
  | _ => none
def c_X11_exchange {α : Type} (as : List Value) (S : ga_S) (s : ga_M) (K : ga_O → Option α) : Option α := match as with
  | [.ref r0, .int a, .int b] => bif Nat.beq r0 0 then (f_X11_exchange a b s).bind fun q => Sum.elim (fun x => K (.inl (some (.int x)), S, q.2)) (fun E => K (.inr E, S, q.2)) q.1 else none
  | _ => none
def c_X7_hasSlot {α : Type} (as : List Value) (S : ga_S) (s : ga_M) (K : ga_O → Option α) : Option α := match as with
  | [.ref r0, .int a] => bif Nat.beq r0 1 then K (.inl (some (.int (v_X7_hasSlot a s))), S, s) else none
  | _ => none
def c_X11_requireSlot {α : Type} (as : List Value) (S : ga_S) (s : ga_M) (K : ga_O → Option α) : Option α := match as with
  | [.ref r0, .int a] => bif Nat.beq r0 0 then Option.elim (v_X11_requireSlot a s) (K (.inl none, S, s)) fun E => K (.inr E, S, s) else none
  | _ => none
def c_X4_againstMove {α : Type} (as : List Value) (S : ga_S) (s : ga_M) (K : ga_O → Option α) : Option α := match as with
  | [.ref r0, .int a, .int b] => bif Nat.beq r0 31 then (f_X4_againstMove a b s).bind fun x => K (.inl (some (.int x)), S, s) else none
  | _ => none
def c_X2_moveToSlot {α : Type} (as : List Value) (S : ga_S) (s : ga_M) (K : ga_O → Option α) : Option α := match as with
  | [.ref r0, .int a, .int b] => bif Nat.beq r0 41 then (f_X2_moveToSlot a b s).bind fun q => K (.inl (some (.int q.1)), S, q.2) else none
  | _ => none
def c_X11_move {α : Type} (as : List Value) (S : ga_S) (s : ga_M) (K : ga_O → Option α) : Option α := match as with
  | [.ref r0, .int a, .int b] => bif Nat.beq r0 0 then (f_X11_move a b s).bind fun q => Sum.elim (fun x => K (.inl (some (.int x)), S, q.2)) (fun E => K (.inr E, S, q.2)) q.1 else none
  | _ => none
def c_X7_hasRoom {α : Type} (as : List Value) (S : ga_S) (s : ga_M) (K : ga_O → Option α) : Option α := match as with
  | [.ref r0, .int a] => bif Nat.beq r0 1 then K (.inl (some (.int (v_X7_hasRoom a s))), S, s) else none
  | _ => none
def c_X11_requireRoom {α : Type} (as : List Value) (S : ga_S) (s : ga_M) (K : ga_O → Option α) : Option α := match as with
  | [.ref r0, .int a] => bif Nat.beq r0 0 then Option.elim (v_X11_requireRoom a s) (K (.inl none, S, s)) fun E => K (.inr E, S, s) else none
  | _ => none
def c_X4_againstRoom {α : Type} (as : List Value) (S : ga_S) (s : ga_M) (K : ga_O → Option α) : Option α := match as with
  | [.ref r0, .int a, .int b] => bif Nat.beq r0 31 then (f_X4_againstRoom a b s).bind fun x => K (.inl (some (.int x)), S, s) else none
  | _ => none
def c_X2_moveToRoom {α : Type} (as : List Value) (S : ga_S) (s : ga_M) (K : ga_O → Option α) : Option α := match as with
  | [.ref r0, .int a, .int b] => bif Nat.beq r0 41 then (f_X2_moveToRoom a b s).bind fun q => K (.inl (some (.int q.1)), S, q.2) else none
  | _ => none
def c_X11_setRoom {α : Type} (as : List Value) (S : ga_S) (s : ga_M) (K : ga_O → Option α) : Option α := match as with
  | [.ref r0, .int a, .int b] => bif Nat.beq r0 0 then (f_X11_setRoom a b s).bind fun q => Sum.elim (fun x => K (.inl (some (.int x)), S, q.2)) (fun E => K (.inr E, S, q.2)) q.1 else none
  | _ => none
def c_X2_openAgain {α : Type} (as : List Value) (S : ga_S) (s : ga_M) (K : ga_O → Option α) : Option α := match as with
  | [.ref r0, .int a] => bif Nat.beq r0 41 then K (.inl (some (.int (v_X2_openAgain a s).1)), S, (v_X2_openAgain a s).2) else none
  | _ => none
def c_X11_reopen {α : Type} (as : List Value) (S : ga_S) (s : ga_M) (K : ga_O → Option α) : Option α := match as with
  | [.ref r0, .int a] => bif Nat.beq r0 0 then (f_X11_reopen a s).bind fun q => Sum.elim (fun x => K (.inl (some (.int x)), S, q.2)) (fun E => K (.inr E, S, q.2)) q.1 else none
  | _ => none
def c_X3_differs {α : Type} (as : List Value) (S : ga_S) (s : ga_M) (K : ga_O → Option α) : Option α := match as with
  | [.ref r0, .int a] => bif Nat.beq r0 20 then K (.inl (some (.int (v_X3_differs a s))), S, s) else none
  | _ => none
def c_X3_differingLessons {α : Type} (as : List Value) (S : ga_S) (s : ga_M) (K : ga_O → Option α) : Option α := match as with
  | [.ref r0] => bif Nat.beq r0 20 then (f_X3_differingLessons s).bind fun x => K (.inl (some (.int x)), S, s) else none
  | _ => none
def c_X11_reset {α : Type} (as : List Value) (S : ga_S) (s : ga_M) (K : ga_O → Option α) : Option α := match as with
  | [.ref r0] => bif Nat.beq r0 0 then (f_X11_reset s).bind fun q => K (.inl (some (.int q.1)), S, q.2) else none
  | _ => none
def c_X11_whyNotCover {α : Type} (as : List Value) (S : ga_S) (s : ga_M) (K : ga_O → Option α) : Option α := match as with
  | [.ref r0, .int a, .int b] => bif Nat.beq r0 0 then (f_X11_whyNotCover a b s).bind fun q => Sum.elim (fun x => K (.inl (some (.int x)), S, s)) (fun E => K (.inr E, S, s)) q else none
  | _ => none
def c_X11_whyNotSupervise {α : Type} (as : List Value) (S : ga_S) (s : ga_M) (K : ga_O → Option α) : Option α := match as with
  | [.ref r0, .int a, .int b] => bif Nat.beq r0 0 then (f_X11_whyNotSupervise a b s).bind fun q => Sum.elim (fun x => K (.inl (some (.int x)), S, s)) (fun E => K (.inr E, S, s)) q else none
  | _ => none
def c_X11_whyNotExchange {α : Type} (as : List Value) (S : ga_S) (s : ga_M) (K : ga_O → Option α) : Option α := match as with
  | [.ref r0, .int a, .int b] => bif Nat.beq r0 0 then (f_X11_whyNotExchange a b s).bind fun q => Sum.elim (fun x => K (.inl (some (.int x)), S, s)) (fun E => K (.inr E, S, s)) q else none
  | _ => none
def c_X11_whyNotRoom {α : Type} (as : List Value) (S : ga_S) (s : ga_M) (K : ga_O → Option α) : Option α := match as with
  | [.ref r0, .int a, .int b] => bif Nat.beq r0 0 then (f_X11_whyNotRoom a b s).bind fun q => Sum.elim (fun x => K (.inl (some (.int x)), S, s)) (fun E => K (.inr E, S, s)) q else none
  | _ => none
def c_X11_candidates {α : Type} (as : List Value) (S : ga_S) (s : ga_M) (K : ga_O → Option α) : Option α := match as with
  | [.ref r0, .int a] => bif Nat.beq r0 0 then (f_X11_candidates a s).bind fun q => Sum.elim (fun x => K (.inl (some (.int x)), S, s)) (fun E => K (.inr E, S, s)) q else none
  | _ => none
def c_X11_chain {α : Type} (as : List Value) (S : ga_S) (s : ga_M) (K : ga_O → Option α) : Option α := match as with
  | [.ref r0, .int a] => bif Nat.beq r0 0 then (f_X11_chain a s).bind fun q => Sum.elim (fun x => K (.inl (some (.int x)), S, q.2)) (fun E => K (.inr E, S, q.2)) q.1 else none
  | _ => none
def c_X11_chainTeacher {α : Type} (as : List Value) (S : ga_S) (s : ga_M) (K : ga_O → Option α) : Option α := match as with
  | [.ref r0, .int a, .int b] => bif Nat.beq r0 0 then (f_X11_chainTeacher a b s).bind fun q => Sum.elim (fun x => K (.inl (some (.int x)), S, q.2)) (fun E => K (.inr E, S, q.2)) q.1 else none
  | _ => none
def c_X11_slotsFor {α : Type} (as : List Value) (S : ga_S) (s : ga_M) (K : ga_O → Option α) : Option α := match as with
  | [.ref r0, .int a] => bif Nat.beq r0 0 then (f_X11_slotsFor a s).bind fun q => Sum.elim (fun x => K (.inl (some (.int x)), S, s)) (fun E => K (.inr E, S, s)) q else none
  | _ => none
def c_X7_lessonsWith {α : Type} (as : List Value) (S : ga_S) (s : ga_M) (K : ga_O → Option α) : Option α := match as with
  | [.ref r0, .ref r1, .int a] => bif Nat.beq r0 1 && Nat.beq r1 27 then (f_X7_lessonsWith_27 a s).bind fun x => K (.inl (some (.int x)), S, s) else bif Nat.beq r0 1 && Nat.beq r1 23 then (f_X7_lessonsWith_23 a s).bind fun x => K (.inl (some (.int x)), S, s) else bif Nat.beq r0 1 && Nat.beq r1 16 then (f_X7_lessonsWith_16 a s).bind fun x => K (.inl (some (.int x)), S, s) else bif Nat.beq r0 1 && Nat.beq r1 25 then (f_X7_lessonsWith_25 a s).bind fun x => K (.inl (some (.int x)), S, s) else bif Nat.beq r0 1 && Nat.beq r1 12 then (f_X7_lessonsWith_12 a s).bind fun x => K (.inl (some (.int x)), S, s) else none
  | _ => none
def c_X3_supervisedLessons {α : Type} (as : List Value) (S : ga_S) (s : ga_M) (K : ga_O → Option α) : Option α := match as with
  | [.ref r0] => bif Nat.beq r0 20 then (f_X3_supervisedLessons s).bind fun x => K (.inl (some (.int x)), S, s) else none
  | _ => none
def c_X3_openLessons {α : Type} (as : List Value) (S : ga_S) (s : ga_M) (K : ga_O → Option α) : Option α := match as with
  | [.ref r0] => bif Nat.beq r0 20 then (f_X3_openLessons s).bind fun x => K (.inl (some (.int x)), S, s) else none
  | _ => none
def c_X11_count {α : Type} (as : List Value) (S : ga_S) (s : ga_M) (K : ga_O → Option α) : Option α := match as with
  | [.ref r0, .int a] => bif Nat.beq r0 0 then (f_X11_count a s).bind fun q => Sum.elim (fun x => K (.inl (some (.int x)), S, s)) (fun E => K (.inr E, S, s)) q else none
  | _ => none
def c_X11_lesson {α : Type} (as : List Value) (S : ga_S) (s : ga_M) (K : ga_O → Option α) : Option α := match as with
  | [.ref r0, .int a, .int b] => bif Nat.beq r0 0 then (f_X11_lesson a b s).bind fun q => Sum.elim (fun x => K (.inl (some (.int x)), S, s)) (fun E => K (.inr E, S, s)) q else none
  | _ => none
def c_X3_taughtBy {α : Type} (as : List Value) (S : ga_S) (s : ga_M) (K : ga_O → Option α) : Option α := match as with
  | [.ref r0, .int a] => bif Nat.beq r0 20 then (f_X3_taughtBy a s).bind fun x => K (.inl (some (.int x)), S, s) else none
  | _ => none
def c_X11_teacher {α : Type} (as : List Value) (S : ga_S) (s : ga_M) (K : ga_O → Option α) : Option α := match as with
  | [.ref r0, .int a, .int b] => bif Nat.beq r0 0 then (f_X11_teacher a b s).bind fun q => Sum.elim (fun x => K (.inl (some (.int x)), S, s)) (fun E => K (.inr E, S, s)) q else none
  | _ => none
def c_X11_room {α : Type} (as : List Value) (S : ga_S) (s : ga_M) (K : ga_O → Option α) : Option α := match as with
  | [.ref r0, .int a, .int b] => bif Nat.beq r0 0 then (f_X11_room a b s).bind fun q => Sum.elim (fun x => K (.inl (some (.int x)), S, s)) (fun E => K (.inr E, S, s)) q else none
  | _ => none
def c_X11_subject {α : Type} (as : List Value) (S : ga_S) (s : ga_M) (K : ga_O → Option α) : Option α := match as with
  | [.ref r0, .int a, .int b] => bif Nat.beq r0 0 then (f_X11_subject a b s).bind fun q => Sum.elim (fun x => K (.inl (some (.int x)), S, s)) (fun E => K (.inr E, S, s)) q else none
  | _ => none
def c_X11_requireClass {α : Type} (as : List Value) (S : ga_S) (s : ga_M) (K : ga_O → Option α) : Option α := match as with
  | [.ref r0, .int a] => bif Nat.beq r0 0 then Option.elim (v_X11_requireClass a s) (K (.inl none, S, s)) fun E => K (.inr E, S, s) else none
  | _ => none
def c_X11_lessonOfClass {α : Type} (as : List Value) (S : ga_S) (s : ga_M) (K : ga_O → Option α) : Option α := match as with
  | [.ref r0, .int a, .int b] => bif Nat.beq r0 0 then (f_X11_lessonOfClass a b s).bind fun q => Sum.elim (fun x => K (.inl (some (.int x)), S, s)) (fun E => K (.inr E, S, s)) q else none
  | _ => none
def c_X11_lessonOfTeacher {α : Type} (as : List Value) (S : ga_S) (s : ga_M) (K : ga_O → Option α) : Option α := match as with
  | [.ref r0, .int a, .int b] => bif Nat.beq r0 0 then (f_X11_lessonOfTeacher a b s).bind fun q => Sum.elim (fun x => K (.inl (some (.int x)), S, s)) (fun E => K (.inr E, S, s)) q else none
  | _ => none
def c_X11_lessonInRoom {α : Type} (as : List Value) (S : ga_S) (s : ga_M) (K : ga_O → Option α) : Option α := match as with
  | [.ref r0, .int a, .int b] => bif Nat.beq r0 0 then (f_X11_lessonInRoom a b s).bind fun q => Sum.elim (fun x => K (.inl (some (.int x)), S, s)) (fun E => K (.inr E, S, s)) q else none
  | _ => none
def c_X11_freeTeachers {α : Type} (as : List Value) (S : ga_S) (s : ga_M) (K : ga_O → Option α) : Option α := match as with
  | [.ref r0, .int a] => bif Nat.beq r0 0 then (f_X11_freeTeachers a s).bind fun q => Sum.elim (fun x => K (.inl (some (.int x)), S, s)) (fun E => K (.inr E, S, s)) q else none
  | _ => none
def c_X11_freeRooms {α : Type} (as : List Value) (S : ga_S) (s : ga_M) (K : ga_O → Option α) : Option α := match as with
  | [.ref r0, .int a, .int b] => bif Nat.beq r0 0 then (f_X11_freeRooms a b s).bind fun q => Sum.elim (fun x => K (.inl (some (.int x)), S, s)) (fun E => K (.inr E, S, s)) q else none
  | _ => none
def c_X3_windowsOf {α : Type} (as : List Value) (S : ga_S) (s : ga_M) (K : ga_O → Option α) : Option α := match as with
  | [.ref r0, .ref r1, .int a, .int b] => bif Nat.beq r0 20 && Nat.beq r1 23 then (f_X3_windowsOf_23 a b s).bind fun x => K (.inl (some (.int x)), S, s) else none
  | _ => none
def c_X11_windows {α : Type} (as : List Value) (S : ga_S) (s : ga_M) (K : ga_O → Option α) : Option α := match as with
  | [.ref r0, .int a, .int b] => bif Nat.beq r0 0 then (f_X11_windows a b s).bind fun q => Sum.elim (fun x => K (.inl (some (.int x)), S, s)) (fun E => K (.inr E, S, s)) q else none
  | _ => none
def c_J9_max_7cf53 {α : Type} (as : List Value) (S : ga_S) (s : ga_M) (K : ga_O → Option α) : Option α := match as with
  | [.int a, .int b] => K (.inl (some (.int (v_J9_max_7cf53 a b s))), S, s)
  | _ => none
def c_X11_spread {α : Type} (as : List Value) (S : ga_S) (s : ga_M) (K : ga_O → Option α) : Option α := match as with
  | [.ref r0] => bif Nat.beq r0 0 then (f_X11_spread s).bind fun x => K (.inl (some (.int x)), S, s) else none
  | _ => none
def c_X3_taughtLessons {α : Type} (as : List Value) (S : ga_S) (s : ga_M) (K : ga_O → Option α) : Option α := match as with
  | [.ref r0] => bif Nat.beq r0 20 then (f_X3_taughtLessons s).bind fun x => K (.inl (some (.int x)), S, s) else none
  | _ => none
def c_X11_taughtShare {α : Type} (as : List Value) (S : ga_S) (s : ga_M) (K : ga_O → Option α) : Option α := match as with
  | [.ref r0] => bif Nat.beq r0 0 then (f_X11_taughtShare s).bind fun x => K (.inl (some (.double x)), S, s) else none
  | _ => none
def c_X5_append {α : Type} (as : List Value) (S : ga_S) (s : ga_M) (K : ga_O → Option α) : Option α := match as with
  | [.ref r0, .int a] => bif Nat.beq r0 69 then K (.inl none, S, v_X5_append a s) else none
  | _ => none
def c_X5_writeLesson {α : Type} (as : List Value) (S : ga_S) (s : ga_M) (K : ga_O → Option α) : Option α := match as with
  | [.ref r0, .int a] => bif Nat.beq r0 69 then K (.inl none, S, v_X5_writeLesson a s) else none
  | _ => none
def c_X5_write {α : Type} (as : List Value) (S : ga_S) (s : ga_M) (K : ga_O → Option α) : Option α := match as with
  | [.ref r0, .int a] => bif Nat.beq r0 69 then (f_X5_write a s).bind fun s1 => K (.inl none, S, s1) else none
  | _ => none
def c_X11_writeReport {α : Type} (as : List Value) (S : ga_S) (s : ga_M) (K : ga_O → Option α) : Option α := match as with
  | [.ref r0, .int a] => bif Nat.beq r0 0 then (f_X11_writeReport a s).bind fun q => Sum.elim (fun x => K (.inl (some (.int x)), S, q.2)) (fun E => K (.inr E, S, q.2)) q.1 else none
  | _ => none
def c_X1_restoreMarked {α : Type} (as : List Value) (S : ga_S) (s : ga_M) (K : ga_O → Option α) : Option α := match as with
  | [.ref r0] => bif Nat.beq r0 42 then (f_X1_restoreMarked s).bind fun s1 => K (.inl none, S, s1) else none
  | _ => none
def c_X1_restoreLatest {α : Type} (as : List Value) (S : ga_S) (s : ga_M) (K : ga_O → Option α) : Option α := match as with
  | [.ref r0] => bif Nat.beq r0 42 then (f_X1_restoreLatest s).bind fun s1 => K (.inl none, S, s1) else none
  | _ => none
def c_X11_undo {α : Type} (as : List Value) (S : ga_S) (s : ga_M) (K : ga_O → Option α) : Option α := match as with
  | [.ref r0] => bif Nat.beq r0 0 then (f_X11_undo s).bind fun q => Sum.elim (fun x => K (.inl (some (.int x)), S, q.2)) (fun E => K (.inr E, S, q.2)) q.1 else none
  | _ => none
def c_X11_undoDepth {α : Type} (as : List Value) (S : ga_S) (s : ga_M) (K : ga_O → Option α) : Option α := match as with
  | [.ref r0] => bif Nat.beq r0 0 then K (.inl (some (.int (v_X11_undoDepth s))), S, s) else none
  | _ => none
def c_X7_becomeSample {α : Type} (as : List Value) (S : ga_S) (s : ga_M) (K : ga_O → Option α) : Option α := match as with
  | [.ref r0] => bif Nat.beq r0 1 then K (.inl none, S, v_X7_becomeSample s) else none
  | _ => none
def c_L_cover {α : Type} (as : List Value) (S : ga_S) (s : ga_M) (K : ga_O → Option α) : Option α := match as with
  | [.ref r0, .int a, .int b] => bif Nat.beq r0 0 then (f_L_cover_0 a b s).bind fun q => Sum.elim (fun x => K (.inl (some (.int x)), S, q.2)) (fun E => K (.inr E, S, q.2)) q.1 else none
  | _ => none
def c_L_supervise {α : Type} (as : List Value) (S : ga_S) (s : ga_M) (K : ga_O → Option α) : Option α := match as with
  | [.ref r0, .int a, .int b] => bif Nat.beq r0 0 then (f_L_supervise_0 a b s).bind fun q => Sum.elim (fun x => K (.inl (some (.int x)), S, q.2)) (fun E => K (.inr E, S, q.2)) q.1 else none
  | _ => none
def c_L_repair {α : Type} (as : List Value) (S : ga_S) (s : ga_M) (K : ga_O → Option α) : Option α := match as with
  | [.ref r0, .int a] => bif Nat.beq r0 0 then (f_L_repair_0 a s).bind fun q => Sum.elim (fun x => K (.inl (some (.int x)), S, q.2)) (fun E => K (.inr E, S, q.2)) q.1 else none
  | _ => none
def c_L_exchange {α : Type} (as : List Value) (S : ga_S) (s : ga_M) (K : ga_O → Option α) : Option α := match as with
  | [.ref r0, .int a, .int b] => bif Nat.beq r0 0 then (f_L_exchange_0 a b s).bind fun q => Sum.elim (fun x => K (.inl (some (.int x)), S, q.2)) (fun E => K (.inr E, S, q.2)) q.1 else none
  | _ => none
def c_L_move {α : Type} (as : List Value) (S : ga_S) (s : ga_M) (K : ga_O → Option α) : Option α := match as with
  | [.ref r0, .int a, .int b] => bif Nat.beq r0 0 then (f_L_move_0 a b s).bind fun q => Sum.elim (fun x => K (.inl (some (.int x)), S, q.2)) (fun E => K (.inr E, S, q.2)) q.1 else none
  | _ => none
def c_L_setRoom {α : Type} (as : List Value) (S : ga_S) (s : ga_M) (K : ga_O → Option α) : Option α := match as with
  | [.ref r0, .int a, .int b] => bif Nat.beq r0 0 then (f_L_setRoom_0 a b s).bind fun q => Sum.elim (fun x => K (.inl (some (.int x)), S, q.2)) (fun E => K (.inr E, S, q.2)) q.1 else none
  | _ => none
def c_L_reopen {α : Type} (as : List Value) (S : ga_S) (s : ga_M) (K : ga_O → Option α) : Option α := match as with
  | [.ref r0, .int a] => bif Nat.beq r0 0 then (f_L_reopen_0 a s).bind fun q => Sum.elim (fun x => K (.inl (some (.int x)), S, q.2)) (fun E => K (.inr E, S, q.2)) q.1 else none
  | _ => none
def gaG : ga_G := fun α mid as S s K => bif Nat.blt mid 79 then (bif Nat.blt mid 40 then (bif Nat.blt mid 20 then (bif Nat.blt mid 10 then (bif Nat.blt mid 5 then (bif Nat.blt mid 3 then (bif Nat.blt mid 2 then (bif Nat.beq mid 1 then c_X6_at as S s K else none) else (bif Nat.beq mid 2 then c_X6_put as S s K else none)) else (bif Nat.blt mid 4 then (bif Nat.beq mid 3 then c_X6_become as S s K else none) else (bif Nat.beq mid 4 then c_J0_length_8abf5 as S s K else none))) else (bif Nat.blt mid 7 then (bif Nat.blt mid 6 then (bif Nat.beq mid 5 then c_J0_charAt_5068e as S s K else none) else (bif Nat.beq mid 6 then c_X10_append as S s K else none)) else (bif Nat.blt mid 8 then (bif Nat.beq mid 7 then c_X7_becomeEmpty as S s K else none) else (bif Nat.blt mid 9 then (bif Nat.beq mid 8 then c_X10_afterBlanks as S s K else none) else (bif Nat.beq mid 9 then c_X10_isLetter as S s K else none))))) else (bif Nat.blt mid 15 then (bif Nat.blt mid 12 then (bif Nat.blt mid 11 then (bif Nat.beq mid 10 then c_X10_isDigit as S s K else none) else (bif Nat.beq mid 11 then c_J9_min_7cf53 as S s K else none)) else (bif Nat.blt mid 13 then (bif Nat.beq mid 12 then c_X10_afterDigits as S s K else none) else (bif Nat.blt mid 14 then (bif Nat.beq mid 13 then c_X10_afterLetters as S s K else none) else (bif Nat.beq mid 14 then c_X10_next as S s K else none)))) else (bif Nat.blt mid 17 then (bif Nat.blt mid 16 then (bif Nat.beq mid 15 then c_X10_begin as S s K else none) else (bif Nat.beq mid 16 then c_X10_isWord as S s K else none)) else (bif Nat.blt mid 18 then (bif Nat.beq mid 17 then c_X10_fail as S s K else none) else (bif Nat.blt mid 19 then (bif Nat.beq mid 18 then c_X8_fail as S s K else none) else (bif Nat.beq mid 19 then c_X8_takeWord as S s K else none)))))) else (bif Nat.blt mid 30 then (bif Nat.blt mid 25 then (bif Nat.blt mid 22 then (bif Nat.blt mid 21 then (bif Nat.beq mid 20 then c_X8_checkNumber as S s K else none) else (bif Nat.beq mid 21 then c_X8_takeNumber as S s K else none)) else (bif Nat.blt mid 23 then (bif Nat.beq mid 22 then c_X8_takeSemicolon as S s K else none) else (bif Nat.blt mid 24 then (bif Nat.beq mid 23 then c_X8_readGrid as S s K else none) else (bif Nat.beq mid 24 then c_X7_addSubject as S s K else none)))) else (bif Nat.blt mid 27 then (bif Nat.blt mid 26 then (bif Nat.beq mid 25 then c_X8_readSubjects as S s K else none) else (bif Nat.beq mid 26 then c_X7_addTeacher as S s K else none)) else (bif Nat.blt mid 28 then (bif Nat.beq mid 27 then c_X11_hasBit as S s K else none) else (bif Nat.blt mid 29 then (bif Nat.beq mid 28 then c_X8_readTeacher as S s K else none) else (bif Nat.beq mid 29 then c_X8_readTeachers as S s K else none))))) else (bif Nat.blt mid 35 then (bif Nat.blt mid 32 then (bif Nat.blt mid 31 then (bif Nat.beq mid 30 then c_X7_addRoom as S s K else none) else (bif Nat.beq mid 31 then c_X8_readRooms as S s K else none)) else (bif Nat.blt mid 33 then (bif Nat.beq mid 32 then c_X8_readClasses as S s K else none) else (bif Nat.blt mid 34 then (bif Nat.beq mid 33 then c_X7_slots as S s K else none) else (bif Nat.beq mid 34 then c_X7_isTakenAtFirst as S s K else none)))) else (bif Nat.blt mid 37 then (bif Nat.blt mid 36 then (bif Nat.beq mid 35 then c_X8_checkUntaken as S s K else none) else (bif Nat.beq mid 36 then c_X7_hasTeacher as S s K else none)) else (bif Nat.blt mid 38 then (bif Nat.beq mid 37 then c_X7_isQualified as S s K else none) else (bif Nat.blt mid 39 then (bif Nat.beq mid 38 then c_X7_addLesson as S s K else none) else (bif Nat.beq mid 39 then c_X8_readLesson as S s K else none))))))) else (bif Nat.blt mid 59 then (bif Nat.blt mid 49 then (bif Nat.blt mid 44 then (bif Nat.blt mid 42 then (bif Nat.blt mid 41 then (bif Nat.beq mid 40 then c_X8_readLessons as S s K else none) else (bif Nat.beq mid 41 then c_X8_read as S s K else none)) else (bif Nat.blt mid 43 then (bif Nat.beq mid 42 then c_X7_become as S s K else none) else (bif Nat.beq mid 43 then c_X7_dayOf as S s K else none))) else (bif Nat.blt mid 46 then (bif Nat.blt mid 45 then (bif Nat.beq mid 44 then c_X3_isAway as S s K else none) else (bif Nat.beq mid 45 then c_X3_isAwayAt as S s K else none)) else (bif Nat.blt mid 47 then (bif Nat.beq mid 46 then c_X3_returnToFirst as S s K else none) else (bif Nat.blt mid 48 then (bif Nat.beq mid 47 then c_X3_begin as S s K else none) else (bif Nat.beq mid 48 then c_X1_forget as S s K else none))))) else (bif Nat.blt mid 54 then (bif Nat.blt mid 51 then (bif Nat.blt mid 50 then (bif Nat.beq mid 49 then c_X11_parseSchool as S s K else none) else (bif Nat.beq mid 50 then c_X7_hasDay as S s K else none)) else (bif Nat.blt mid 52 then (bif Nat.beq mid 51 then c_X1_baseOf as S s K else none) else (bif Nat.blt mid 53 then (bif Nat.beq mid 52 then c_X1_mark as S s K else none) else (bif Nat.beq mid 53 then c_X3_makeOpen as S s K else none)))) else (bif Nat.blt mid 56 then (bif Nat.blt mid 55 then (bif Nat.beq mid 54 then c_X2_letBeAbsent as S s K else none) else (bif Nat.beq mid 55 then c_X1_keepMarked as S s K else none)) else (bif Nat.blt mid 57 then (bif Nat.beq mid 56 then c_X7_hasLesson as S s K else none) else (bif Nat.blt mid 58 then (bif Nat.beq mid 57 then c_X3_isTaught as S s K else none) else (bif Nat.beq mid 58 then c_X3_lessonAt as S s K else none)))))) else (bif Nat.blt mid 69 then (bif Nat.blt mid 64 then (bif Nat.blt mid 61 then (bif Nat.blt mid 60 then (bif Nat.beq mid 59 then c_X4_isBusy as S s K else none) else (bif Nat.beq mid 60 then c_X3_loadOf as S s K else none)) else (bif Nat.blt mid 62 then (bif Nat.beq mid 61 then c_X4_againstCover as S s K else none) else (bif Nat.blt mid 63 then (bif Nat.beq mid 62 then c_X3_letTeach as S s K else none) else (bif Nat.beq mid 63 then c_X2_letCover as S s K else none)))) else (bif Nat.blt mid 66 then (bif Nat.blt mid 65 then (bif Nat.beq mid 64 then c_X3_isOpen as S s K else none) else (bif Nat.beq mid 65 then c_X3_isSupervised as S s K else none)) else (bif Nat.blt mid 67 then (bif Nat.beq mid 66 then c_X3_dutiesOn as S s K else none) else (bif Nat.blt mid 68 then (bif Nat.beq mid 67 then c_X4_againstSupervision as S s K else none) else (bif Nat.beq mid 68 then c_X3_letWatch as S s K else none))))) else (bif Nat.blt mid 74 then (bif Nat.blt mid 71 then (bif Nat.blt mid 70 then (bif Nat.beq mid 69 then c_X2_letSupervise as S s K else none) else (bif Nat.beq mid 70 then c_X3_dutiesOf as S s K else none)) else (bif Nat.blt mid 72 then (bif Nat.beq mid 71 then c_X0_presentAt as S s K else none) else (bif Nat.blt mid 73 then (bif Nat.beq mid 72 then c_X7_qualifiedFor as S s K else none) else (bif Nat.beq mid 73 then c_X0_busyAt as S s K else none)))) else (bif Nat.blt mid 76 then (bif Nat.blt mid 75 then (bif Nat.beq mid 74 then c_X0_leastLoaded as S s K else none) else (bif Nat.beq mid 75 then c_X0_successorsOf as S s K else none)) else (bif Nat.blt mid 77 then (bif Nat.beq mid 76 then c_X0_thoseBefore as S s K else none) else (bif Nat.blt mid 78 then (bif Nat.beq mid 77 then c_X0_lowest as S s K else none) else (bif Nat.beq mid 78 then c_X0_choose as S s K else none)))))))) else (bif Nat.blt mid 405 then (bif Nat.blt mid 98 then (bif Nat.blt mid 88 then (bif Nat.blt mid 83 then (bif Nat.blt mid 81 then (bif Nat.blt mid 80 then (bif Nat.beq mid 79 then c_X0_find as S s K else none) else (bif Nat.beq mid 80 then c_X2_repairByChain as S s K else none)) else (bif Nat.blt mid 82 then (bif Nat.beq mid 81 then c_X2_repairOpenLessons as S s K else none) else (bif Nat.beq mid 82 then c_X11_repairAll as S s K else none))) else (bif Nat.blt mid 85 then (bif Nat.blt mid 84 then (bif Nat.beq mid 83 then c_X4_isTeacherAwayAt as S s K else none) else (bif Nat.beq mid 84 then c_X4_isHeldByThird as S s K else none)) else (bif Nat.blt mid 86 then (bif Nat.beq mid 85 then c_X4_againstExchange as S s K else none) else (bif Nat.blt mid 87 then (bif Nat.beq mid 86 then c_X2_swapSlots as S s K else none) else (bif Nat.beq mid 87 then c_X7_hasSlot as S s K else none))))) else (bif Nat.blt mid 93 then (bif Nat.blt mid 90 then (bif Nat.blt mid 89 then (bif Nat.beq mid 88 then c_X4_againstMove as S s K else none) else (bif Nat.beq mid 89 then c_X2_moveToSlot as S s K else none)) else (bif Nat.blt mid 91 then (bif Nat.beq mid 90 then c_X7_hasRoom as S s K else none) else (bif Nat.blt mid 92 then (bif Nat.beq mid 91 then c_X4_againstRoom as S s K else none) else (bif Nat.beq mid 92 then c_X2_moveToRoom as S s K else none)))) else (bif Nat.blt mid 95 then (bif Nat.blt mid 94 then (bif Nat.beq mid 93 then c_X2_openAgain as S s K else none) else (bif Nat.beq mid 94 then c_X3_differs as S s K else none)) else (bif Nat.blt mid 96 then (bif Nat.beq mid 95 then c_X3_differingLessons as S s K else none) else (bif Nat.blt mid 97 then (bif Nat.beq mid 96 then c_X11_reset as S s K else none) else (bif Nat.beq mid 97 then c_X7_lessonsWith as S s K else none)))))) else (bif Nat.blt mid 108 then (bif Nat.blt mid 103 then (bif Nat.blt mid 100 then (bif Nat.blt mid 99 then (bif Nat.beq mid 98 then c_X3_supervisedLessons as S s K else none) else (bif Nat.beq mid 99 then c_X3_openLessons as S s K else none)) else (bif Nat.blt mid 101 then (bif Nat.beq mid 100 then c_X3_taughtBy as S s K else none) else (bif Nat.blt mid 102 then (bif Nat.beq mid 101 then c_X3_windowsOf as S s K else none) else (bif Nat.beq mid 102 then c_J9_max_7cf53 as S s K else none)))) else (bif Nat.blt mid 105 then (bif Nat.blt mid 104 then (bif Nat.beq mid 103 then c_X11_spread as S s K else none) else (bif Nat.beq mid 104 then c_X3_taughtLessons as S s K else none)) else (bif Nat.blt mid 106 then (bif Nat.beq mid 105 then c_X11_taughtShare as S s K else none) else (bif Nat.blt mid 107 then (bif Nat.beq mid 106 then c_X5_append as S s K else none) else (bif Nat.beq mid 107 then c_X5_writeLesson as S s K else none))))) else (bif Nat.blt mid 400 then (bif Nat.blt mid 110 then (bif Nat.blt mid 109 then (bif Nat.beq mid 108 then c_X5_write as S s K else none) else (bif Nat.beq mid 109 then c_X1_restoreMarked as S s K else none)) else (bif Nat.blt mid 111 then (bif Nat.beq mid 110 then c_X1_restoreLatest as S s K else none) else (bif Nat.blt mid 112 then (bif Nat.beq mid 111 then c_X11_undoDepth as S s K else none) else (bif Nat.beq mid 112 then c_X7_becomeSample as S s K else none)))) else (bif Nat.blt mid 402 then (bif Nat.blt mid 401 then (bif Nat.beq mid 400 then c_X11_appendText as S s K else none) else (bif Nat.beq mid 401 then c_X11_truncateText as S s K else none)) else (bif Nat.blt mid 403 then (bif Nat.beq mid 402 then c_X11_requireTeacher as S s K else none) else (bif Nat.blt mid 404 then (bif Nat.beq mid 403 then c_X11_requireDay as S s K else none) else (bif Nat.beq mid 404 then c_X11_setAbsent as S s K else none))))))) else (bif Nat.blt mid 425 then (bif Nat.blt mid 415 then (bif Nat.blt mid 410 then (bif Nat.blt mid 407 then (bif Nat.blt mid 406 then (bif Nat.beq mid 405 then c_X11_requireLesson as S s K else none) else (bif Nat.beq mid 406 then c_X11_keepUnlessRefused as S s K else none)) else (bif Nat.blt mid 408 then (bif Nat.beq mid 407 then c_X11_cover as S s K else none) else (bif Nat.blt mid 409 then (bif Nat.beq mid 408 then c_X11_supervise as S s K else none) else (bif Nat.beq mid 409 then c_X11_repair as S s K else none)))) else (bif Nat.blt mid 412 then (bif Nat.blt mid 411 then (bif Nat.beq mid 410 then c_X11_exchange as S s K else none) else (bif Nat.beq mid 411 then c_X11_requireSlot as S s K else none)) else (bif Nat.blt mid 413 then (bif Nat.beq mid 412 then c_X11_move as S s K else none) else (bif Nat.blt mid 414 then (bif Nat.beq mid 413 then c_X11_requireRoom as S s K else none) else (bif Nat.beq mid 414 then c_X11_setRoom as S s K else none))))) else (bif Nat.blt mid 420 then (bif Nat.blt mid 417 then (bif Nat.blt mid 416 then (bif Nat.beq mid 415 then c_X11_reopen as S s K else none) else (bif Nat.beq mid 416 then c_X11_whyNotCover as S s K else none)) else (bif Nat.blt mid 418 then (bif Nat.beq mid 417 then c_X11_whyNotSupervise as S s K else none) else (bif Nat.blt mid 419 then (bif Nat.beq mid 418 then c_X11_whyNotExchange as S s K else none) else (bif Nat.beq mid 419 then c_X11_whyNotRoom as S s K else none)))) else (bif Nat.blt mid 422 then (bif Nat.blt mid 421 then (bif Nat.beq mid 420 then c_X11_candidates as S s K else none) else (bif Nat.beq mid 421 then c_X11_chain as S s K else none)) else (bif Nat.blt mid 423 then (bif Nat.beq mid 422 then c_X11_chainTeacher as S s K else none) else (bif Nat.blt mid 424 then (bif Nat.beq mid 423 then c_X11_slotsFor as S s K else none) else (bif Nat.beq mid 424 then c_X11_count as S s K else none)))))) else (bif Nat.blt mid 435 then (bif Nat.blt mid 430 then (bif Nat.blt mid 427 then (bif Nat.blt mid 426 then (bif Nat.beq mid 425 then c_X11_lesson as S s K else none) else (bif Nat.beq mid 426 then c_X11_teacher as S s K else none)) else (bif Nat.blt mid 428 then (bif Nat.beq mid 427 then c_X11_room as S s K else none) else (bif Nat.blt mid 429 then (bif Nat.beq mid 428 then c_X11_subject as S s K else none) else (bif Nat.beq mid 429 then c_X11_requireClass as S s K else none)))) else (bif Nat.blt mid 432 then (bif Nat.blt mid 431 then (bif Nat.beq mid 430 then c_X11_lessonOfClass as S s K else none) else (bif Nat.beq mid 431 then c_X11_lessonOfTeacher as S s K else none)) else (bif Nat.blt mid 433 then (bif Nat.beq mid 432 then c_X11_lessonInRoom as S s K else none) else (bif Nat.blt mid 434 then (bif Nat.beq mid 433 then c_X11_freeTeachers as S s K else none) else (bif Nat.beq mid 434 then c_X11_freeRooms as S s K else none))))) else (bif Nat.blt mid 440 then (bif Nat.blt mid 437 then (bif Nat.blt mid 436 then (bif Nat.beq mid 435 then c_X11_windows as S s K else none) else (bif Nat.beq mid 436 then c_X11_writeReport as S s K else none)) else (bif Nat.blt mid 438 then (bif Nat.beq mid 437 then c_X11_undo as S s K else none) else (bif Nat.blt mid 439 then (bif Nat.beq mid 438 then c_L_cover as S s K else none) else (bif Nat.beq mid 439 then c_L_supervise as S s K else none)))) else (bif Nat.blt mid 442 then (bif Nat.blt mid 441 then (bif Nat.beq mid 440 then c_L_repair as S s K else none) else (bif Nat.beq mid 441 then c_L_exchange as S s K else none)) else (bif Nat.blt mid 443 then (bif Nat.beq mid 442 then c_L_move as S s K else none) else (bif Nat.blt mid 444 then (bif Nat.beq mid 443 then c_L_setRoom as S s K else none) else (bif Nat.beq mid 444 then c_L_reopen as S s K else none))))))))
def gaGP : ga_G := fun α mid as S s K => bif Nat.blt mid 87 then (bif Nat.blt mid 56 then (bif Nat.blt mid 27 then (bif Nat.blt mid 9 then (bif Nat.blt mid 5 then (bif Nat.blt mid 4 then (bif Nat.beq mid 1 then c_X6_at as S s K else none) else (bif Nat.beq mid 4 then c_J0_length_8abf5 as S s K else none)) else (bif Nat.blt mid 8 then (bif Nat.beq mid 5 then c_J0_charAt_5068e as S s K else none) else (bif Nat.beq mid 8 then c_X10_afterBlanks as S s K else none))) else (bif Nat.blt mid 11 then (bif Nat.blt mid 10 then (bif Nat.beq mid 9 then c_X10_isLetter as S s K else none) else (bif Nat.beq mid 10 then c_X10_isDigit as S s K else none)) else (bif Nat.blt mid 13 then (bif Nat.beq mid 11 then c_J9_min_7cf53 as S s K else none) else (bif Nat.blt mid 16 then (bif Nat.beq mid 13 then c_X10_afterLetters as S s K else none) else (bif Nat.beq mid 16 then c_X10_isWord as S s K else none))))) else (bif Nat.blt mid 43 then (bif Nat.blt mid 34 then (bif Nat.blt mid 33 then (bif Nat.beq mid 27 then c_X11_hasBit as S s K else none) else (bif Nat.beq mid 33 then c_X7_slots as S s K else none)) else (bif Nat.blt mid 36 then (bif Nat.beq mid 34 then c_X7_isTakenAtFirst as S s K else none) else (bif Nat.blt mid 37 then (bif Nat.beq mid 36 then c_X7_hasTeacher as S s K else none) else (bif Nat.beq mid 37 then c_X7_isQualified as S s K else none)))) else (bif Nat.blt mid 45 then (bif Nat.blt mid 44 then (bif Nat.beq mid 43 then c_X7_dayOf as S s K else none) else (bif Nat.beq mid 44 then c_X3_isAway as S s K else none)) else (bif Nat.blt mid 50 then (bif Nat.beq mid 45 then c_X3_isAwayAt as S s K else none) else (bif Nat.blt mid 51 then (bif Nat.beq mid 50 then c_X7_hasDay as S s K else none) else (bif Nat.beq mid 51 then c_X1_baseOf as S s K else none)))))) else (bif Nat.blt mid 70 then (bif Nat.blt mid 61 then (bif Nat.blt mid 58 then (bif Nat.blt mid 57 then (bif Nat.beq mid 56 then c_X7_hasLesson as S s K else none) else (bif Nat.beq mid 57 then c_X3_isTaught as S s K else none)) else (bif Nat.blt mid 59 then (bif Nat.beq mid 58 then c_X3_lessonAt as S s K else none) else (bif Nat.blt mid 60 then (bif Nat.beq mid 59 then c_X4_isBusy as S s K else none) else (bif Nat.beq mid 60 then c_X3_loadOf as S s K else none)))) else (bif Nat.blt mid 65 then (bif Nat.blt mid 64 then (bif Nat.beq mid 61 then c_X4_againstCover as S s K else none) else (bif Nat.beq mid 64 then c_X3_isOpen as S s K else none)) else (bif Nat.blt mid 66 then (bif Nat.beq mid 65 then c_X3_isSupervised as S s K else none) else (bif Nat.blt mid 67 then (bif Nat.beq mid 66 then c_X3_dutiesOn as S s K else none) else (bif Nat.beq mid 67 then c_X4_againstSupervision as S s K else none))))) else (bif Nat.blt mid 76 then (bif Nat.blt mid 72 then (bif Nat.blt mid 71 then (bif Nat.beq mid 70 then c_X3_dutiesOf as S s K else none) else (bif Nat.beq mid 71 then c_X0_presentAt as S s K else none)) else (bif Nat.blt mid 74 then (bif Nat.beq mid 72 then c_X7_qualifiedFor as S s K else none) else (bif Nat.blt mid 75 then (bif Nat.beq mid 74 then c_X0_leastLoaded as S s K else none) else (bif Nat.beq mid 75 then c_X0_successorsOf as S s K else none)))) else (bif Nat.blt mid 83 then (bif Nat.blt mid 77 then (bif Nat.beq mid 76 then c_X0_thoseBefore as S s K else none) else (bif Nat.beq mid 77 then c_X0_lowest as S s K else none)) else (bif Nat.blt mid 84 then (bif Nat.beq mid 83 then c_X4_isTeacherAwayAt as S s K else none) else (bif Nat.blt mid 85 then (bif Nat.beq mid 84 then c_X4_isHeldByThird as S s K else none) else (bif Nat.beq mid 85 then c_X4_againstExchange as S s K else none))))))) else (bif Nat.blt mid 411 then (bif Nat.blt mid 100 then (bif Nat.blt mid 94 then (bif Nat.blt mid 90 then (bif Nat.blt mid 88 then (bif Nat.beq mid 87 then c_X7_hasSlot as S s K else none) else (bif Nat.beq mid 88 then c_X4_againstMove as S s K else none)) else (bif Nat.blt mid 91 then (bif Nat.beq mid 90 then c_X7_hasRoom as S s K else none) else (bif Nat.beq mid 91 then c_X4_againstRoom as S s K else none))) else (bif Nat.blt mid 97 then (bif Nat.blt mid 95 then (bif Nat.beq mid 94 then c_X3_differs as S s K else none) else (bif Nat.beq mid 95 then c_X3_differingLessons as S s K else none)) else (bif Nat.blt mid 98 then (bif Nat.beq mid 97 then c_X7_lessonsWith as S s K else none) else (bif Nat.blt mid 99 then (bif Nat.beq mid 98 then c_X3_supervisedLessons as S s K else none) else (bif Nat.beq mid 99 then c_X3_openLessons as S s K else none))))) else (bif Nat.blt mid 105 then (bif Nat.blt mid 102 then (bif Nat.blt mid 101 then (bif Nat.beq mid 100 then c_X3_taughtBy as S s K else none) else (bif Nat.beq mid 101 then c_X3_windowsOf as S s K else none)) else (bif Nat.blt mid 103 then (bif Nat.beq mid 102 then c_J9_max_7cf53 as S s K else none) else (bif Nat.blt mid 104 then (bif Nat.beq mid 103 then c_X11_spread as S s K else none) else (bif Nat.beq mid 104 then c_X3_taughtLessons as S s K else none)))) else (bif Nat.blt mid 402 then (bif Nat.blt mid 111 then (bif Nat.beq mid 105 then c_X11_taughtShare as S s K else none) else (bif Nat.beq mid 111 then c_X11_undoDepth as S s K else none)) else (bif Nat.blt mid 403 then (bif Nat.beq mid 402 then c_X11_requireTeacher as S s K else none) else (bif Nat.blt mid 405 then (bif Nat.beq mid 403 then c_X11_requireDay as S s K else none) else (bif Nat.beq mid 405 then c_X11_requireLesson as S s K else none)))))) else (bif Nat.blt mid 426 then (bif Nat.blt mid 419 then (bif Nat.blt mid 416 then (bif Nat.blt mid 413 then (bif Nat.beq mid 411 then c_X11_requireSlot as S s K else none) else (bif Nat.beq mid 413 then c_X11_requireRoom as S s K else none)) else (bif Nat.blt mid 417 then (bif Nat.beq mid 416 then c_X11_whyNotCover as S s K else none) else (bif Nat.blt mid 418 then (bif Nat.beq mid 417 then c_X11_whyNotSupervise as S s K else none) else (bif Nat.beq mid 418 then c_X11_whyNotExchange as S s K else none)))) else (bif Nat.blt mid 423 then (bif Nat.blt mid 420 then (bif Nat.beq mid 419 then c_X11_whyNotRoom as S s K else none) else (bif Nat.beq mid 420 then c_X11_candidates as S s K else none)) else (bif Nat.blt mid 424 then (bif Nat.beq mid 423 then c_X11_slotsFor as S s K else none) else (bif Nat.blt mid 425 then (bif Nat.beq mid 424 then c_X11_count as S s K else none) else (bif Nat.beq mid 425 then c_X11_lesson as S s K else none))))) else (bif Nat.blt mid 431 then (bif Nat.blt mid 428 then (bif Nat.blt mid 427 then (bif Nat.beq mid 426 then c_X11_teacher as S s K else none) else (bif Nat.beq mid 427 then c_X11_room as S s K else none)) else (bif Nat.blt mid 429 then (bif Nat.beq mid 428 then c_X11_subject as S s K else none) else (bif Nat.blt mid 430 then (bif Nat.beq mid 429 then c_X11_requireClass as S s K else none) else (bif Nat.beq mid 430 then c_X11_lessonOfClass as S s K else none)))) else (bif Nat.blt mid 433 then (bif Nat.blt mid 432 then (bif Nat.beq mid 431 then c_X11_lessonOfTeacher as S s K else none) else (bif Nat.beq mid 432 then c_X11_lessonInRoom as S s K else none)) else (bif Nat.blt mid 434 then (bif Nat.beq mid 433 then c_X11_freeTeachers as S s K else none) else (bif Nat.blt mid 435 then (bif Nat.beq mid 434 then c_X11_freeRooms as S s K else none) else (bif Nat.beq mid 435 then c_X11_windows as S s K else none)))))))
end
