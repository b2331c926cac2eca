noncomputable section
def c_X6_at {α : Type} (as : List Value) (S : ga_S) (s : ga_M) (K : ga_O → Option α) : Option α := match as with
  | [.ref r, .int i] => (match S[r]? with
    | some (.inl (6, [some (some a)])) => (match S[a]? with
      | some (.inr (0, n)) => K (.inl (some (.int (ga_at a n i s))), S, s)
      | _ => none)
    | _ => none)
  | _ => none
def c_X6_put {α : Type} (as : List Value) (S : ga_S) (s : ga_M) (K : ga_O → Option α) : Option α := match as with
  | [.ref r, .int i, .int x] => (match S[r]? with
    | some (.inl (6, [some (some a)])) => (match S[a]? with
      | some (.inr (0, n)) => K (.inl none, S, ga_pt a n i x s)
      | _ => none)
    | _ => none)
  | _ => none
def c_X6_become {α : Type} (as : List Value) (S : ga_S) (s : ga_M) (K : ga_O → Option α) : Option α := match as with
  | [.ref r, .ref q] => (match S[r]? with
    | some (.inl (6, [some (some a)])) => (match S[a]? with
      | some (.inr (0, n)) => (match S[q]? with
        | some (.inl (6, [some (some b)])) => (match S[b]? with
          | some (.inr (0, n2)) => K (.inl none, S, ga_bc a n b n2 s)
          | _ => none)
        | _ => none)
      | _ => none)
    | _ => none)
  | _ => none
def c_J0_length_8abf5 {α : Type} (as : List Value) (S : ga_S) (s : ga_M) (K : ga_O → Option α) : Option α := match as with
  | [.ref w] => (ga_sl w s).bind fun x => K (.inl (some (.int x)), S, s)
  | _ => none
def c_J0_charAt_5068e {α : Type} (as : List Value) (S : ga_S) (s : ga_M) (K : ga_O → Option α) : Option α := match as with
  | [.ref w, .int i] => (ga_sc w i s).bind fun x => K (.inl (some (.int x)), S, s)
  | _ => none
def c_X10_append {α : Type} (as : List Value) (S : ga_S) (s : ga_M) (K : ga_O → Option α) : Option α := match as with
  | [.ref r0, .int a] => bif Nat.beq r0 45 then (f_X10_append a s).bind fun s1 => K (.inl none, S, s1) else none
  | _ => none
def c_X11_appendText {α : Type} (as : List Value) (S : ga_S) (s : ga_M) (K : ga_O → Option α) : Option α := match as with
  | [.ref r0, .int a, .int b, .int c, .int d, .int e] => bif Nat.beq r0 0 then (f_X11_appendText a b c d e s).bind fun q => Sum.elim (fun x => K (.inl (some (.int x)), S, q.2)) (fun E => K (.inr E, S, q.2)) q.1 else none
  | _ => none
def c_X12_bring {α : Type} (as : List Value) (S : ga_S) (s : ga_M) (K : ga_O → Option α) : Option α := match as with
  | [.ref r0, .int a] => bif Nat.beq r0 72 then (f_X12_bring a s).bind fun s1 => K (.inl none, S, s1) else none
  | _ => none
def c_X12_no {α : Type} (as : List Value) (S : ga_S) (s : ga_M) (K : ga_O → Option α) : Option α := match as with
  | [.ref r0, .int a] => bif Nat.beq r0 72 then K (.inl (some (.int (v_X12_no a s).1)), S, (v_X12_no a s).2) else none
  | _ => none
def c_X12_appendText {α : Type} (as : List Value) (S : ga_S) (s : ga_M) (K : ga_O → Option α) : Option α := match as with
  | [.ref r0, .int a, .int b, .int c, .int d, .int e] => bif Nat.beq r0 72 then (f_X12_appendText a b c d e s).bind fun q => K (.inl (some (.int q.1)), S, q.2) else none
  | _ => none
def c_X11_truncateText {α : Type} (as : List Value) (S : ga_S) (s : ga_M) (K : ga_O → Option α) : Option α := match as with
  | [.ref r0, .int a] => bif Nat.beq r0 0 then (f_X11_truncateText a s).bind fun q => Sum.elim (fun x => K (.inl (some (.int x)), S, q.2)) (fun E => K (.inr E, S, q.2)) q.1 else none
  | _ => none
def c_X12_in {α : Type} (as : List Value) (S : ga_S) (s : ga_M) (K : ga_O → Option α) : Option α := match as with
  | [.long a, .long b, .long c] => K (.inl (some (.int (v_X12_in a b c s))), S, s)
  | _ => none
def c_X12_truncateText {α : Type} (as : List Value) (S : ga_S) (s : ga_M) (K : ga_O → Option α) : Option α := match as with
  | [.ref r0, .int a] => bif Nat.beq r0 72 then K (.inl (some (.int (v_X12_truncateText a s).1)), S, (v_X12_truncateText a s).2) else none
  | _ => none
def c_X7_becomeEmpty {α : Type} (as : List Value) (S : ga_S) (s : ga_M) (K : ga_O → Option α) : Option α := match as with
  | [.ref r0] => bif Nat.beq r0 49 then K (.inl none, S, v_X7_becomeEmpty_49 s) else bif Nat.beq r0 1 then K (.inl none, S, v_X7_becomeEmpty s) else none
  | _ => none
def c_X10_afterBlanks {α : Type} (as : List Value) (S : ga_S) (s : ga_M) (K : ga_O → Option α) : Option α := match as with
  | [.ref r0, .int a] => bif Nat.beq r0 45 then (f_X10_afterBlanks a s).bind fun x => K (.inl (some (.int x)), S, s) else none
  | _ => none
def c_X10_isLetter {α : Type} (as : List Value) (S : ga_S) (s : ga_M) (K : ga_O → Option α) : Option α := match as with
  | [.int a] => K (.inl (some (.int (v_X10_isLetter a s))), S, s)
  | _ => none
def c_X10_isDigit {α : Type} (as : List Value) (S : ga_S) (s : ga_M) (K : ga_O → Option α) : Option α := match as with
  | [.int a] => K (.inl (some (.int (v_X10_isDigit a s))), S, s)
  | _ => none
def c_J9_min_7cf53 {α : Type} (as : List Value) (S : ga_S) (s : ga_M) (K : ga_O → Option α) : Option α := match as with
  | [.int a, .int b] => K (.inl (some (.int (v_J9_min_7cf53 a b s))), S, s)
  | _ => none
def c_X10_afterDigits {α : Type} (as : List Value) (S : ga_S) (s : ga_M) (K : ga_O → Option α) : Option α := match as with
  | [.ref r0, .int a] => bif Nat.beq r0 45 then (f_X10_afterDigits a s).bind fun q => K (.inl (some (.int q.1)), S, q.2) else none
  | _ => none
def c_X10_afterLetters {α : Type} (as : List Value) (S : ga_S) (s : ga_M) (K : ga_O → Option α) : Option α := match as with
  | [.ref r0, .int a] => bif Nat.beq r0 45 then (f_X10_afterLetters a s).bind fun x => K (.inl (some (.int x)), S, s) else none
  | _ => none
def c_X10_next {α : Type} (as : List Value) (S : ga_S) (s : ga_M) (K : ga_O → Option α) : Option α := match as with
  | [.ref r0] => bif Nat.beq r0 45 then (f_X10_next s).bind fun s1 => K (.inl none, S, s1) else none
  | _ => none
def c_X10_begin {α : Type} (as : List Value) (S : ga_S) (s : ga_M) (K : ga_O → Option α) : Option α := match as with
  | [.ref r0] => bif Nat.beq r0 45 then (f_X10_begin s).bind fun s1 => K (.inl none, S, s1) else none
  | _ => none
def c_X10_isWord {α : Type} (as : List Value) (S : ga_S) (s : ga_M) (K : ga_O → Option α) : Option α := match as with
  | [.ref r0, .ref a] => bif Nat.beq r0 45 then (f_X10_isWord a s).bind fun x => K (.inl (some (.int x)), S, s) else none
  | _ => none
def c_X10_fail {α : Type} (as : List Value) (S : ga_S) (s : ga_M) (K : ga_O → Option α) : Option α := match as with
  | [.ref r0, .int a, .int b] => bif Nat.beq r0 45 then K (.inl (some (.int (v_X10_fail a b s).1)), S, (v_X10_fail a b s).2) else none
  | _ => none
def c_X8_fail {α : Type} (as : List Value) (S : ga_S) (s : ga_M) (K : ga_O → Option α) : Option α := match as with
  | [.ref r0, .int a] => bif Nat.beq r0 48 then K (.inl (some (.int (v_X8_fail a s).1)), S, (v_X8_fail a s).2) else none
  | _ => none
def c_X8_takeWord {α : Type} (as : List Value) (S : ga_S) (s : ga_M) (K : ga_O → Option α) : Option α := match as with
  | [.ref r0, .ref a] => bif Nat.beq r0 48 then (f_X8_takeWord a s).bind fun q => K (.inl (some (.int q.1)), S, q.2) else none
  | _ => none
def c_X8_checkNumber {α : Type} (as : List Value) (S : ga_S) (s : ga_M) (K : ga_O → Option α) : Option α := match as with
  | [.ref r0, .int a, .int b] => bif Nat.beq r0 48 then K (.inl (some (.int (v_X8_checkNumber a b s).1)), S, (v_X8_checkNumber a b s).2) else none
  | _ => none
def c_X8_takeNumber {α : Type} (as : List Value) (S : ga_S) (s : ga_M) (K : ga_O → Option α) : Option α := match as with
  | [.ref r0] => bif Nat.beq r0 48 then (f_X8_takeNumber s).bind fun q => K (.inl (some (.int q.1)), S, q.2) else none
  | _ => none
def c_X8_takeSemicolon {α : Type} (as : List Value) (S : ga_S) (s : ga_M) (K : ga_O → Option α) : Option α := match as with
  | [.ref r0] => bif Nat.beq r0 48 then (f_X8_takeSemicolon s).bind fun q => K (.inl (some (.int q.1)), S, q.2) else none
  | _ => none
def c_X8_readGrid {α : Type} (as : List Value) (S : ga_S) (s : ga_M) (K : ga_O → Option α) : Option α := match as with
  | [.ref r0] => bif Nat.beq r0 48 then (f_X8_readGrid s).bind fun q => K (.inl (some (.int q.1)), S, q.2) else none
  | _ => none
def c_X7_addSubject {α : Type} (as : List Value) (S : ga_S) (s : ga_M) (K : ga_O → Option α) : Option α := match as with
  | [.ref r0, .int a] => bif Nat.beq r0 49 then K (.inl none, S, v_X7_addSubject_49 a s) else bif Nat.beq r0 1 then K (.inl none, S, v_X7_addSubject a s) else none
  | _ => none
def c_X8_readSubjects {α : Type} (as : List Value) (S : ga_S) (s : ga_M) (K : ga_O → Option α) : Option α := match as with
  | [.ref r0] => bif Nat.beq r0 48 then (f_X8_readSubjects s).bind fun q => K (.inl (some (.int q.1)), S, q.2) else none
  | _ => none
def c_X7_addTeacher {α : Type} (as : List Value) (S : ga_S) (s : ga_M) (K : ga_O → Option α) : Option α := match as with
  | [.ref r0, .int a, .int b] => bif Nat.beq r0 49 then K (.inl none, S, v_X7_addTeacher_49 a b s) else bif Nat.beq r0 1 then K (.inl none, S, v_X7_addTeacher a b s) else none
  | _ => none
def c_X11_hasBit {α : Type} (as : List Value) (S : ga_S) (s : ga_M) (K : ga_O → Option α) : Option α := match as with
  | [.int a, .int b] => K (.inl (some (.int (v_X11_hasBit a b s))), S, s)
  | _ => none
def c_X8_readTeacher {α : Type} (as : List Value) (S : ga_S) (s : ga_M) (K : ga_O → Option α) : Option α := match as with
  | [.ref r0] => bif Nat.beq r0 48 then (f_X8_readTeacher s).bind fun q => K (.inl (some (.int q.1)), S, q.2) else none
  | _ => none
def c_X8_readTeachers {α : Type} (as : List Value) (S : ga_S) (s : ga_M) (K : ga_O → Option α) : Option α := match as with
  | [.ref r0] => bif Nat.beq r0 48 then (f_X8_readTeachers s).bind fun q => K (.inl (some (.int q.1)), S, q.2) else none
  | _ => none
def c_X7_addRoom {α : Type} (as : List Value) (S : ga_S) (s : ga_M) (K : ga_O → Option α) : Option α := match as with
  | [.ref r0, .int a] => bif Nat.beq r0 49 then K (.inl none, S, v_X7_addRoom_49 a s) else bif Nat.beq r0 1 then K (.inl none, S, v_X7_addRoom a s) else none
  | _ => none
def c_X8_readRooms {α : Type} (as : List Value) (S : ga_S) (s : ga_M) (K : ga_O → Option α) : Option α := match as with
  | [.ref r0] => bif Nat.beq r0 48 then (f_X8_readRooms s).bind fun q => K (.inl (some (.int q.1)), S, q.2) else none
  | _ => none
def c_X8_readClasses {α : Type} (as : List Value) (S : ga_S) (s : ga_M) (K : ga_O → Option α) : Option α := match as with
  | [.ref r0] => bif Nat.beq r0 48 then (f_X8_readClasses s).bind fun q => K (.inl (some (.int q.1)), S, q.2) else none
  | _ => none
def c_X7_slots {α : Type} (as : List Value) (S : ga_S) (s : ga_M) (K : ga_O → Option α) : Option α := match as with
  | [.ref r0] => bif Nat.beq r0 49 then K (.inl (some (.int (v_X7_slots_49 s))), S, s) else bif Nat.beq r0 1 then K (.inl (some (.int (v_X7_slots s))), S, s) else none
  | _ => none
def c_X7_isTakenAtFirst {α : Type} (as : List Value) (S : ga_S) (s : ga_M) (K : ga_O → Option α) : Option α := match as with
  | [.ref r0, .int a, .ref r1, .int b] => bif Nat.beq r0 49 && Nat.beq r1 58 then (f_X7_isTakenAtFirst_49_58 a b s).bind fun x => K (.inl (some (.int x)), S, s) else bif Nat.beq r0 49 && Nat.beq r1 64 then (f_X7_isTakenAtFirst_49_64 a b s).bind fun x => K (.inl (some (.int x)), S, s) else bif Nat.beq r0 49 && Nat.beq r1 66 then (f_X7_isTakenAtFirst_49_66 a b s).bind fun x => K (.inl (some (.int x)), S, s) else none
  | _ => none
def c_X8_checkUntaken {α : Type} (as : List Value) (S : ga_S) (s : ga_M) (K : ga_O → Option α) : Option α := match as with
  | [.ref r0, .int a, .ref r1, .int b] => bif Nat.beq r0 48 && Nat.beq r1 58 then (f_X8_checkUntaken_58 a b s).bind fun q => K (.inl (some (.int q.1)), S, q.2) else bif Nat.beq r0 48 && Nat.beq r1 64 then (f_X8_checkUntaken_64 a b s).bind fun q => K (.inl (some (.int q.1)), S, q.2) else bif Nat.beq r0 48 && Nat.beq r1 66 then (f_X8_checkUntaken_66 a b s).bind fun q => K (.inl (some (.int q.1)), S, q.2) else none
  | _ => none
def c_X7_hasTeacher {α : Type} (as : List Value) (S : ga_S) (s : ga_M) (K : ga_O → Option α) : Option α := match as with
  | [.ref r0, .int a] => bif Nat.beq r0 49 then K (.inl (some (.int (v_X7_hasTeacher_49 a s))), S, s) else bif Nat.beq r0 1 then K (.inl (some (.int (v_X7_hasTeacher a s))), S, s) else none
  | _ => none
def c_X7_isQualified {α : Type} (as : List Value) (S : ga_S) (s : ga_M) (K : ga_O → Option α) : Option α := match as with
  | [.ref r0, .int a, .int b] => bif Nat.beq r0 49 then K (.inl (some (.int (v_X7_isQualified_49 a b s))), S, s) else bif Nat.beq r0 1 then K (.inl (some (.int (v_X7_isQualified a b s))), S, s) else none
  | _ => none
def c_X7_addLesson {α : Type} (as : List Value) (S : ga_S) (s : ga_M) (K : ga_O → Option α) : Option α := match as with
  | [.ref r0, .int a, .int b, .int c, .int d, .int e] => bif Nat.beq r0 49 then K (.inl none, S, v_X7_addLesson_49 a b c d e s) else bif Nat.beq r0 1 then K (.inl none, S, v_X7_addLesson a b c d e s) else none
  | _ => none
def c_X8_readLesson {α : Type} (as : List Value) (S : ga_S) (s : ga_M) (K : ga_O → Option α) : Option α := match as with
  | [.ref r0] => bif Nat.beq r0 48 then (f_X8_readLesson s).bind fun q => K (.inl (some (.int q.1)), S, q.2) else none
  | _ => none
def c_X8_readLessons {α : Type} (as : List Value) (S : ga_S) (s : ga_M) (K : ga_O → Option α) : Option α := match as with
  | [.ref r0] => bif Nat.beq r0 48 then (f_X8_readLessons s).bind fun q => K (.inl (some (.int q.1)), S, q.2) else none
  | _ => none
def c_X8_read {α : Type} (as : List Value) (S : ga_S) (s : ga_M) (K : ga_O → Option α) : Option α := match as with
  | [.ref r0] => bif Nat.beq r0 48 then (f_X8_read s).bind fun q => K (.inl (some (.int q.1)), S, q.2) else none
  | _ => none
def c_X7_become {α : Type} (as : List Value) (S : ga_S) (s : ga_M) (K : ga_O → Option α) : Option α := match as with
  | [.ref r0, .ref r1] => bif Nat.beq r0 1 && Nat.beq r1 49 then K (.inl none, S, v_X7_become_49 s) else none
  | _ => none
def c_X7_dayOf {α : Type} (as : List Value) (S : ga_S) (s : ga_M) (K : ga_O → Option α) : Option α := match as with
  | [.ref r0, .int a] => bif Nat.beq r0 1 then (f_X7_dayOf a s).bind fun x => K (.inl (some (.int x)), S, s) else none
  | _ => none
def c_X3_isAway {α : Type} (as : List Value) (S : ga_S) (s : ga_M) (K : ga_O → Option α) : Option α := match as with
  | [.ref r0, .int a, .int b] => bif Nat.beq r0 20 then K (.inl (some (.int (v_X3_isAway a b s))), S, s) else none
  | _ => none
def c_X3_isAwayAt {α : Type} (as : List Value) (S : ga_S) (s : ga_M) (K : ga_O → Option α) : Option α := match as with
  | [.ref r0, .int a, .int b] => bif Nat.beq r0 20 then (f_X3_isAwayAt a b s).bind fun x => K (.inl (some (.int x)), S, s) else none
  | _ => none
def c_X3_returnToFirst {α : Type} (as : List Value) (S : ga_S) (s : ga_M) (K : ga_O → Option α) : Option α := match as with
  | [.ref r0] => bif Nat.beq r0 20 then (f_X3_returnToFirst s).bind fun s1 => K (.inl none, S, s1) else none
  | _ => none
def c_X3_begin {α : Type} (as : List Value) (S : ga_S) (s : ga_M) (K : ga_O → Option α) : Option α := match as with
  | [.ref r0] => bif Nat.beq r0 20 then (f_X3_begin s).bind fun s1 => K (.inl none, S, s1) else none
  | _ => none
def c_X1_forget {α : Type} (as : List Value) (S : ga_S) (s : ga_M) (K : ga_O → Option α) : Option α := match as with
  | [.ref r0] => bif Nat.beq r0 42 then K (.inl none, S, v_X1_forget s) else none
  | _ => none
def c_X11_parseSchool {α : Type} (as : List Value) (S : ga_S) (s : ga_M) (K : ga_O → Option α) : Option α := match as with
  | [.ref r0] => bif Nat.beq r0 0 then (f_X11_parseSchool s).bind fun q => K (.inl (some (.int q.1)), S, q.2) else none
  | _ => none
def c_X12_byteAt {α : Type} (as : List Value) (S : ga_S) (s : ga_M) (K : ga_O → Option α) : Option α := match as with
  | [.ref r0, .int a] => bif Nat.beq r0 72 then (f_X12_byteAt a s).bind fun x => K (.inl (some (.int x)), S, s) else none
  | _ => none
def c_X12_isLetterAt {α : Type} (as : List Value) (S : ga_S) (s : ga_M) (K : ga_O → Option α) : Option α := match as with
  | [.ref r0, .int a] => bif Nat.beq r0 72 then (f_X12_isLetterAt a s).bind fun x => K (.inl (some (.int x)), S, s) else none
  | _ => none
def c_X12_isDigitAt {α : Type} (as : List Value) (S : ga_S) (s : ga_M) (K : ga_O → Option α) : Option α := match as with
  | [.ref r0, .int a] => bif Nat.beq r0 72 then (f_X12_isDigitAt a s).bind fun x => K (.inl (some (.int x)), S, s) else none
  | _ => none
def c_X12_next {α : Type} (as : List Value) (S : ga_S) (s : ga_M) (K : ga_O → Option α) : Option α := match as with
  | [.ref r0] => bif Nat.beq r0 72 then (f_X12_next s).bind fun s1 => K (.inl none, S, s1) else none
  | _ => none
def c_X12_begin {α : Type} (as : List Value) (S : ga_S) (s : ga_M) (K : ga_O → Option α) : Option α := match as with
  | [.ref r0] => bif Nat.beq r0 72 then (f_X12_begin s).bind fun s1 => K (.inl none, S, s1) else none
  | _ => none
def c_X12_isWord {α : Type} (as : List Value) (S : ga_S) (s : ga_M) (K : ga_O → Option α) : Option α := match as with
  | [.ref r0, .ref a] => bif Nat.beq r0 72 then (f_X12_isWord a s).bind fun x => K (.inl (some (.int x)), S, s) else none
  | _ => none
def c_X12_goOn {α : Type} (as : List Value) (S : ga_S) (s : ga_M) (K : ga_O → Option α) : Option α := match as with
  | [.ref r0] => bif Nat.beq r0 72 then (f_X12_goOn s).bind fun s1 => K (.inl none, S, s1) else none
  | _ => none
def c_X12_wrong {α : Type} (as : List Value) (S : ga_S) (s : ga_M) (K : ga_O → Option α) : Option α := match as with
  | [.ref r0, .int a] => bif Nat.beq r0 72 then K (.inl none, S, v_X12_wrong a s) else none
  | _ => none
def c_X12_must {α : Type} (as : List Value) (S : ga_S) (s : ga_M) (K : ga_O → Option α) : Option α := match as with
  | [.ref r0, .ref a] => bif Nat.beq r0 72 then (f_X12_must a s).bind fun s1 => K (.inl none, S, s1) else none
  | _ => none
def c_X12_digits {α : Type} (as : List Value) (S : ga_S) (s : ga_M) (K : ga_O → Option α) : Option α := match as with
  | [.ref r0] => bif Nat.beq r0 72 then (f_X12_digits s).bind fun x => K (.inl (some (.long x)), S, s) else none
  | _ => none
def c_X12_see {α : Type} (as : List Value) (S : ga_S) (s : ga_M) (K : ga_O → Option α) : Option α := match as with
  | [.ref r0, .int a, .int b] => bif Nat.beq r0 72 then (f_X12_see a b s).bind fun q => K (.inl (some (.int q.1)), S, q.2) else none
  | _ => none
def c_X12_number {α : Type} (as : List Value) (S : ga_S) (s : ga_M) (K : ga_O → Option α) : Option α := match as with
  | [.ref r0, .int a, .int b] => bif Nat.beq r0 72 then (f_X12_number a b s).bind fun q => K (.inl (some (.int q.1)), S, q.2) else none
  | _ => none
def c_X12_opensThing {α : Type} (as : List Value) (S : ga_S) (s : ga_M) (K : ga_O → Option α) : Option α := match as with
  | [.ref r0, .int a, .int b] => bif Nat.beq r0 72 then (f_X12_opensThing a b s).bind fun q => K (.inl (some (.int q.1)), S, q.2) else none
  | _ => none
def c_X12_readKinds {α : Type} (as : List Value) (S : ga_S) (s : ga_M) (K : ga_O → Option α) : Option α := match as with
  | [.ref r0, .ref a, .int b, .int c, .int d] => bif Nat.beq r0 72 then (f_X12_readKinds a b c d s).bind fun s1 => K (.inl none, S, s1) else none
  | _ => none
def c_X12_has {α : Type} (as : List Value) (S : ga_S) (s : ga_M) (K : ga_O → Option α) : Option α := match as with
  | [.int a, .int b] => K (.inl (some (.int (v_X12_has a b s))), S, s)
  | _ => none
def c_X12_readTeachers {α : Type} (as : List Value) (S : ga_S) (s : ga_M) (K : ga_O → Option α) : Option α := match as with
  | [.ref r0] => bif Nat.beq r0 72 then (f_X12_readTeachers s).bind fun s1 => K (.inl none, S, s1) else none
  | _ => none
def c_X12_isThere {α : Type} (as : List Value) (S : ga_S) (s : ga_M) (K : ga_O → Option α) : Option α := match as with
  | [.ref r0, .int a, .int b, .int c] => bif Nat.beq r0 72 then (f_X12_isThere a b c s).bind fun x => K (.inl (some (.int x)), S, s) else none
  | _ => none
def c_X12_readLesson {α : Type} (as : List Value) (S : ga_S) (s : ga_M) (K : ga_O → Option α) : Option α := match as with
  | [.ref r0] => bif Nat.beq r0 72 then (f_X12_readLesson s).bind fun s1 => K (.inl none, S, s1) else none
  | _ => none
def c_X12_firstly {α : Type} (as : List Value) (S : ga_S) (s : ga_M) (K : ga_O → Option α) : Option α := match as with
  | [.ref r0, .int a] => bif Nat.beq r0 72 then (f_X12_firstly a s).bind fun s1 => K (.inl none, S, s1) else none
  | _ => none
def c_X12_beginAnew {α : Type} (as : List Value) (S : ga_S) (s : ga_M) (K : ga_O → Option α) : Option α := match as with
  | [.ref r0] => bif Nat.beq r0 72 then (f_X12_beginAnew s).bind fun s1 => K (.inl none, S, s1) else none
  | _ => none
def c_X12_parseSchool {α : Type} (as : List Value) (S : ga_S) (s : ga_M) (K : ga_O → Option α) : Option α := match as with
  | [.ref r0] => bif Nat.beq r0 72 then (f_X12_parseSchool s).bind fun q => K (.inl (some (.int q.1)), S, q.2) else none
  | _ => none
def c_X1_baseOf {α : Type} (as : List Value) (S : ga_S) (s : ga_M) (K : ga_O → Option α) : Option α := match as with
  | [.ref r0, .int a] => bif Nat.beq r0 42 then (f_X1_baseOf a s).bind fun x => K (.inl (some (.int x)), S, s) else none
  | _ => none
def c_X1_mark {α : Type} (as : List Value) (S : ga_S) (s : ga_M) (K : ga_O → Option α) : Option α := match as with
  | [.ref r0] => bif Nat.beq r0 42 then (f_X1_mark s).bind fun s1 => K (.inl none, S, s1) else none
  | _ => none
def c_X1_keepMarked {α : Type} (as : List Value) (S : ga_S) (s : ga_M) (K : ga_O → Option α) : Option α := match as with
  | [.ref r0] => bif Nat.beq r0 42 then (f_X1_keepMarked s).bind fun s1 => K (.inl none, S, s1) else none
  | _ => none
def c_X1_restoreMarked {α : Type} (as : List Value) (S : ga_S) (s : ga_M) (K : ga_O → Option α) : Option α := match as with
  | [.ref r0] => bif Nat.beq r0 42 then (f_X1_restoreMarked s).bind fun s1 => K (.inl none, S, s1) else none
  | _ => none
def c_X9_wordOf {α : Type} (as : List Value) (S : ga_S) (s : ga_M) (K : ga_O → Option α) : Option α := match as with
  | [.int a] => K (.inl (some (.ref (v_X9_wordOf a s))), S, s)
  | _ => none
def c_X9_findStep {α : Type} (as : List Value) (S : ga_S) (s : ga_M) (K : ga_O → Option α) : Option α := match as with
  | [.ref r0] => bif Nat.beq r0 68 then (f_X9_findStep s).bind fun x => K (.inl (some (.int x)), S, s) else none
  | _ => none
def c_X9_numbersOf {α : Type} (as : List Value) (S : ga_S) (s : ga_M) (K : ga_O → Option α) : Option α := match as with
  | [.int a] => K (.inl (some (.int (v_X9_numbersOf a s))), S, s)
  | _ => none
def c_X9_readStep {α : Type} (as : List Value) (S : ga_S) (s : ga_M) (K : ga_O → Option α) : Option α := match as with
  | [.ref r0] => bif Nat.beq r0 68 then (f_X9_readStep s).bind fun q => K (.inl (some (.int q.1)), S, q.2) else none
  | _ => none
def c_X7_hasDay {α : Type} (as : List Value) (S : ga_S) (s : ga_M) (K : ga_O → Option α) : Option α := match as with
  | [.ref r0, .int a] => bif Nat.beq r0 1 then K (.inl (some (.int (v_X7_hasDay a s))), S, s) else none
  | _ => none
def c_X3_makeOpen {α : Type} (as : List Value) (S : ga_S) (s : ga_M) (K : ga_O → Option α) : Option α := match as with
  | [.ref r0, .int a] => bif Nat.beq r0 20 then K (.inl none, S, v_X3_makeOpen a s) else none
  | _ => none
def c_X2_letBeAbsent {α : Type} (as : List Value) (S : ga_S) (s : ga_M) (K : ga_O → Option α) : Option α := match as with
  | [.ref r0, .int a, .int b, .int c] => bif Nat.beq r0 41 then (f_X2_letBeAbsent a b c s).bind fun q => K (.inl (some (.int q.1)), S, q.2) else none
  | _ => none
def c_X7_hasLesson {α : Type} (as : List Value) (S : ga_S) (s : ga_M) (K : ga_O → Option α) : Option α := match as with
  | [.ref r0, .int a] => bif Nat.beq r0 1 then K (.inl (some (.int (v_X7_hasLesson a s))), S, s) else none
  | _ => none
def c_X3_isOpen {α : Type} (as : List Value) (S : ga_S) (s : ga_M) (K : ga_O → Option α) : Option α := match as with
  | [.ref r0, .int a] => bif Nat.beq r0 20 then K (.inl (some (.int (v_X3_isOpen a s))), S, s) else none
  | _ => none
def c_X2_openAgain {α : Type} (as : List Value) (S : ga_S) (s : ga_M) (K : ga_O → Option α) : Option α := match as with
  | [.ref r0, .int a] => bif Nat.beq r0 41 then K (.inl (some (.int (v_X2_openAgain a s).1)), S, (v_X2_openAgain a s).2) else none
  | _ => none
def c_X0_presentAt {α : Type} (as : List Value) (S : ga_S) (s : ga_M) (K : ga_O → Option α) : Option α := match as with
  | [.ref r0, .int a] => bif Nat.beq r0 32 then (f_X0_presentAt a s).bind fun x => K (.inl (some (.int x)), S, s) else none
  | _ => none
def c_X3_isTaught {α : Type} (as : List Value) (S : ga_S) (s : ga_M) (K : ga_O → Option α) : Option α := match as with
  | [.ref r0, .int a] => bif Nat.beq r0 20 then K (.inl (some (.int (v_X3_isTaught a s))), S, s) else none
  | _ => none
def c_X7_qualifiedFor {α : Type} (as : List Value) (S : ga_S) (s : ga_M) (K : ga_O → Option α) : Option α := match as with
  | [.ref r0, .int a] => bif Nat.beq r0 1 then (f_X7_qualifiedFor a s).bind fun x => K (.inl (some (.int x)), S, s) else none
  | _ => none
def c_X0_busyAt {α : Type} (as : List Value) (S : ga_S) (s : ga_M) (K : ga_O → Option α) : Option α := match as with
  | [.ref r0, .int a, .int b] => bif Nat.beq r0 32 then (f_X0_busyAt a b s).bind fun q => K (.inl (some (.int q.1)), S, q.2) else none
  | _ => none
def c_X3_loadOf {α : Type} (as : List Value) (S : ga_S) (s : ga_M) (K : ga_O → Option α) : Option α := match as with
  | [.ref r0, .int a] => bif Nat.beq r0 20 then (f_X3_loadOf a s).bind fun x => K (.inl (some (.int x)), S, s) else none
  | _ => none
def c_X0_leastLoaded {α : Type} (as : List Value) (S : ga_S) (s : ga_M) (K : ga_O → Option α) : Option α := match as with
  | [.ref r0, .int a] => bif Nat.beq r0 32 then (f_X0_leastLoaded a s).bind fun x => K (.inl (some (.int x)), S, s) else none
  | _ => none
def c_X0_successorsOf {α : Type} (as : List Value) (S : ga_S) (s : ga_M) (K : ga_O → Option α) : Option α := match as with
  | [.ref r0, .int a] => bif Nat.beq r0 32 then (f_X0_successorsOf a s).bind fun x => K (.inl (some (.int x)), S, s) else none
  | _ => none
def c_X0_thoseBefore {α : Type} (as : List Value) (S : ga_S) (s : ga_M) (K : ga_O → Option α) : Option α := match as with
  | [.ref r0, .int a, .int b] => bif Nat.beq r0 32 then (f_X0_thoseBefore a b s).bind fun x => K (.inl (some (.int x)), S, s) else none
  | _ => none
def c_X0_lowest {α : Type} (as : List Value) (S : ga_S) (s : ga_M) (K : ga_O → Option α) : Option α := match as with
  | [.ref r0, .int a] => bif Nat.beq r0 32 then (f_X0_lowest a s).bind fun x => K (.inl (some (.int x)), S, s) else none
  | _ => none
def c_X0_choose {α : Type} (as : List Value) (S : ga_S) (s : ga_M) (K : ga_O → Option α) : Option α := match as with
  | [.ref r0, .int a] => bif Nat.beq r0 32 then (f_X0_choose a s).bind fun s1 => K (.inl none, S, s1) else none
  | _ => none
def c_X0_find {α : Type} (as : List Value) (S : ga_S) (s : ga_M) (K : ga_O → Option α) : Option α := match as with
  | [.ref r0, .int a] => bif Nat.beq r0 32 then (f_X0_find a s).bind fun q => K (.inl (some (.int q.1)), S, q.2) else none
  | _ => none
def c_X3_lessonAt {α : Type} (as : List Value) (S : ga_S) (s : ga_M) (K : ga_O → Option α) : Option α := match as with
  | [.ref r0, .int a, .ref r1, .int b] => bif Nat.beq r0 20 && Nat.beq r1 23 then (f_X3_lessonAt_23 a b s).bind fun x => K (.inl (some (.int x)), S, s) else bif Nat.beq r0 20 && Nat.beq r1 25 then (f_X3_lessonAt_25 a b s).bind fun x => K (.inl (some (.int x)), S, s) else bif Nat.beq r0 20 && Nat.beq r1 10 then (f_X3_lessonAt_10 a b s).bind fun x => K (.inl (some (.int x)), S, s) else none
  | _ => none
def c_X3_letTeach {α : Type} (as : List Value) (S : ga_S) (s : ga_M) (K : ga_O → Option α) : Option α := match as with
  | [.ref r0, .int a, .int b] => bif Nat.beq r0 20 then K (.inl none, S, v_X3_letTeach a b s) else none
  | _ => none
def c_X2_repairByChain {α : Type} (as : List Value) (S : ga_S) (s : ga_M) (K : ga_O → Option α) : Option α := match as with
  | [.ref r0, .int a] => bif Nat.beq r0 41 then (f_X2_repairByChain a s).bind fun q => K (.inl (some (.int q.1)), S, q.2) else none
  | _ => none
def c_X7_hasRoom {α : Type} (as : List Value) (S : ga_S) (s : ga_M) (K : ga_O → Option α) : Option α := match as with
  | [.ref r0, .int a] => bif Nat.beq r0 1 then K (.inl (some (.int (v_X7_hasRoom a s))), S, s) else none
  | _ => none
def c_X4_againstRoom {α : Type} (as : List Value) (S : ga_S) (s : ga_M) (K : ga_O → Option α) : Option α := match as with
  | [.ref r0, .int a, .int b] => bif Nat.beq r0 31 then (f_X4_againstRoom a b s).bind fun x => K (.inl (some (.int x)), S, s) else none
  | _ => none
def c_X2_moveToRoom {α : Type} (as : List Value) (S : ga_S) (s : ga_M) (K : ga_O → Option α) : Option α := match as with
  | [.ref r0, .int a, .int b] => bif Nat.beq r0 41 then (f_X2_moveToRoom a b s).bind fun q => K (.inl (some (.int q.1)), S, q.2) else none
  | _ => none
def c_X7_hasSlot {α : Type} (as : List Value) (S : ga_S) (s : ga_M) (K : ga_O → Option α) : Option α := match as with
  | [.ref r0, .int a] => bif Nat.beq r0 1 then K (.inl (some (.int (v_X7_hasSlot a s))), S, s) else none
  | _ => none
def c_X4_isBusy {α : Type} (as : List Value) (S : ga_S) (s : ga_M) (K : ga_O → Option α) : Option α := match as with
  | [.ref r0, .int a, .int b] => bif Nat.beq r0 31 then (f_X4_isBusy a b s).bind fun x => K (.inl (some (.int x)), S, s) else none
  | _ => none
def c_X4_isTeacherAwayAt {α : Type} (as : List Value) (S : ga_S) (s : ga_M) (K : ga_O → Option α) : Option α := match as with
  | [.ref r0, .int a, .int b] => bif Nat.beq r0 31 then (f_X4_isTeacherAwayAt a b s).bind fun x => K (.inl (some (.int x)), S, s) else none
  | _ => none
def c_X4_againstMove {α : Type} (as : List Value) (S : ga_S) (s : ga_M) (K : ga_O → Option α) : Option α := match as with
  | [.ref r0, .int a, .int b] => bif Nat.beq r0 31 then (f_X4_againstMove a b s).bind fun x => K (.inl (some (.int x)), S, s) else none
  | _ => none
def c_X2_moveToSlot {α : Type} (as : List Value) (S : ga_S) (s : ga_M) (K : ga_O → Option α) : Option α := match as with
  | [.ref r0, .int a, .int b] => bif Nat.beq r0 41 then (f_X2_moveToSlot a b s).bind fun q => K (.inl (some (.int q.1)), S, q.2) else none
  | _ => none
def c_X4_isHeldByThird {α : Type} (as : List Value) (S : ga_S) (s : ga_M) (K : ga_O → Option α) : Option α := match as with
  | [.ref r0, .ref r1, .int a, .int b] => bif Nat.beq r0 31 && Nat.beq r1 23 then (f_X4_isHeldByThird_23 a b s).bind fun x => K (.inl (some (.int x)), S, s) else bif Nat.beq r0 31 && Nat.beq r1 25 then (f_X4_isHeldByThird_25 a b s).bind fun x => K (.inl (some (.int x)), S, s) else none
  | _ => none
def c_X4_againstExchange {α : Type} (as : List Value) (S : ga_S) (s : ga_M) (K : ga_O → Option α) : Option α := match as with
  | [.ref r0, .int a, .int b] => bif Nat.beq r0 31 then (f_X4_againstExchange a b s).bind fun x => K (.inl (some (.int x)), S, s) else none
  | _ => none
def c_X2_swapSlots {α : Type} (as : List Value) (S : ga_S) (s : ga_M) (K : ga_O → Option α) : Option α := match as with
  | [.ref r0, .int a, .int b] => bif Nat.beq r0 41 then (f_X2_swapSlots a b s).bind fun q => K (.inl (some (.int q.1)), S, q.2) else none
  | _ => none
def c_X3_isSupervised {α : Type} (as : List Value) (S : ga_S) (s : ga_M) (K : ga_O → Option α) : Option α := match as with
  | [.ref r0, .int a] => bif Nat.beq r0 20 then K (.inl (some (.int (v_X3_isSupervised a s))), S, s) else none
  | _ => none
def c_X3_dutiesOn {α : Type} (as : List Value) (S : ga_S) (s : ga_M) (K : ga_O → Option α) : Option α := match as with
  | [.ref r0, .int a, .int b] => bif Nat.beq r0 20 then (f_X3_dutiesOn a b s).bind fun x => K (.inl (some (.int x)), S, s) else none
  | _ => none
def c_X4_againstSupervision {α : Type} (as : List Value) (S : ga_S) (s : ga_M) (K : ga_O → Option α) : Option α := match as with
  | [.ref r0, .int a, .int b] => bif Nat.beq r0 31 then (f_X4_againstSupervision a b s).bind fun x => K (.inl (some (.int x)), S, s) else none
  | _ => none
def c_X3_letWatch {α : Type} (as : List Value) (S : ga_S) (s : ga_M) (K : ga_O → Option α) : Option α := match as with
  | [.ref r0, .int a, .int b] => bif Nat.beq r0 20 then K (.inl none, S, v_X3_letWatch a b s) else none
  | _ => none
def c_X2_letSupervise {α : Type} (as : List Value) (S : ga_S) (s : ga_M) (K : ga_O → Option α) : Option α := match as with
  | [.ref r0, .int a, .int b] => bif Nat.beq r0 41 then (f_X2_letSupervise a b s).bind fun q => K (.inl (some (.int q.1)), S, q.2) else none
  | _ => none
def c_X4_againstCover {α : Type} (as : List Value) (S : ga_S) (s : ga_M) (K : ga_O → Option α) : Option α := match as with
  | [.ref r0, .int a, .int b] => bif Nat.beq r0 31 then (f_X4_againstCover a b s).bind fun x => K (.inl (some (.int x)), S, s) else none
  | _ => none
def c_X2_letCover {α : Type} (as : List Value) (S : ga_S) (s : ga_M) (K : ga_O → Option α) : Option α := match as with
  | [.ref r0, .int a, .int b] => bif Nat.beq r0 41 then (f_X2_letCover a b s).bind fun q => K (.inl (some (.int q.1)), S, q.2) else none
  | _ => none
def c_X2_repairOpenLessons {α : Type} (as : List Value) (S : ga_S) (s : ga_M) (K : ga_O → Option α) : Option α := match as with
  | [.ref r0] => bif Nat.beq r0 41 then (f_X2_repairOpenLessons s).bind fun q => K (.inl (some (.int q.1)), S, q.2) else none
  | _ => none
def c_X2_perform {α : Type} (as : List Value) (S : ga_S) (s : ga_M) (K : ga_O → Option α) : Option α := match as with
  | [.ref r0, .int a, .int b, .int c] => bif Nat.beq r0 41 then (f_X2_perform a b c s).bind fun q => K (.inl (some (.int q.1)), S, q.2) else none
  | _ => none
def c_X11_runScript {α : Type} (as : List Value) (S : ga_S) (s : ga_M) (K : ga_O → Option α) : Option α := match as with
  | [.ref r0] => bif Nat.beq r0 0 then (f_X11_runScript s).bind fun q => K (.inl (some (.int q.1)), S, q.2) else none
  | _ => none
def c_X12_copyRow {α : Type} (as : List Value) (S : ga_S) (s : ga_M) (K : ga_O → Option α) : Option α := match as with
  | [.ref r0, .ref r1] => bif Nat.beq r0 75 && Nat.beq r1 76 then (f_X12_copyRow_75_76 s).bind fun s1 => K (.inl none, S, s1) else bif Nat.beq r0 76 && Nat.beq r1 75 then (f_X12_copyRow_76_75 s).bind fun s1 => K (.inl none, S, s1) else none
  | _ => none
def c_X12_push {α : Type} (as : List Value) (S : ga_S) (s : ga_M) (K : ga_O → Option α) : Option α := match as with
  | [.ref r0] => bif Nat.beq r0 72 then (f_X12_push s).bind fun s1 => K (.inl none, S, s1) else none
  | _ => none
def c_X12_stepHere {α : Type} (as : List Value) (S : ga_S) (s : ga_M) (K : ga_O → Option α) : Option α := match as with
  | [.ref r0] => bif Nat.beq r0 72 then (f_X12_stepHere s).bind fun x => K (.inl (some (.int x)), S, s) else none
  | _ => none
def c_X12_figure {α : Type} (as : List Value) (S : ga_S) (s : ga_M) (K : ga_O → Option α) : Option α := match as with
  | [.ref r0] => bif Nat.beq r0 72 then (f_X12_figure s).bind fun q => K (.inl (some (.int q.1)), S, q.2) else none
  | _ => none
def c_X12_isLesson {α : Type} (as : List Value) (S : ga_S) (s : ga_M) (K : ga_O → Option α) : Option α := match as with
  | [.ref r0, .int a] => bif Nat.beq r0 72 then K (.inl (some (.int (v_X12_isLesson a s))), S, s) else none
  | _ => none
def c_X12_isOpen {α : Type} (as : List Value) (S : ga_S) (s : ga_M) (K : ga_O → Option α) : Option α := match as with
  | [.ref r0, .int a] => bif Nat.beq r0 72 then (f_X12_isOpen a s).bind fun x => K (.inl (some (.int x)), S, s) else none
  | _ => none
def c_X12_isRoom {α : Type} (as : List Value) (S : ga_S) (s : ga_M) (K : ga_O → Option α) : Option α := match as with
  | [.ref r0, .int a] => bif Nat.beq r0 72 then K (.inl (some (.int (v_X12_isRoom a s))), S, s) else none
  | _ => none
def c_X12_lessonWith {α : Type} (as : List Value) (S : ga_S) (s : ga_M) (K : ga_O → Option α) : Option α := match as with
  | [.ref r0, .int a, .int b, .int c, .int d, .int e] => bif Nat.beq r0 72 then (f_X12_lessonWith a b c d e s).bind fun x => K (.inl (some (.int x)), S, s) else none
  | _ => none
def c_X12_reasonForRoom {α : Type} (as : List Value) (S : ga_S) (s : ga_M) (K : ga_O → Option α) : Option α := match as with
  | [.ref r0, .int a, .int b] => bif Nat.beq r0 72 then (f_X12_reasonForRoom a b s).bind fun x => K (.inl (some (.int x)), S, s) else none
  | _ => none
def c_X12_slots {α : Type} (as : List Value) (S : ga_S) (s : ga_M) (K : ga_O → Option α) : Option α := match as with
  | [.ref r0] => bif Nat.beq r0 72 then K (.inl (some (.int (v_X12_slots s))), S, s) else none
  | _ => none
def c_X12_isSlot {α : Type} (as : List Value) (S : ga_S) (s : ga_M) (K : ga_O → Option α) : Option α := match as with
  | [.ref r0, .int a] => bif Nat.beq r0 72 then K (.inl (some (.int (v_X12_isSlot a s))), S, s) else none
  | _ => none
def c_X12_ofClass {α : Type} (as : List Value) (S : ga_S) (s : ga_M) (K : ga_O → Option α) : Option α := match as with
  | [.ref r0, .int a, .int b] => bif Nat.beq r0 72 then (f_X12_ofClass a b s).bind fun x => K (.inl (some (.int x)), S, s) else none
  | _ => none
def c_X12_ofTeacher {α : Type} (as : List Value) (S : ga_S) (s : ga_M) (K : ga_O → Option α) : Option α := match as with
  | [.ref r0, .int a, .int b] => bif Nat.beq r0 72 then (f_X12_ofTeacher a b s).bind fun x => K (.inl (some (.int x)), S, s) else none
  | _ => none
def c_X12_dayOf {α : Type} (as : List Value) (S : ga_S) (s : ga_M) (K : ga_O → Option α) : Option α := match as with
  | [.ref r0, .int a] => bif Nat.beq r0 72 then (f_X12_dayOf a s).bind fun x => K (.inl (some (.int x)), S, s) else none
  | _ => none
def c_X12_isAbsent {α : Type} (as : List Value) (S : ga_S) (s : ga_M) (K : ga_O → Option α) : Option α := match as with
  | [.ref r0, .int a, .int b] => bif Nat.beq r0 72 then (f_X12_isAbsent a b s).bind fun x => K (.inl (some (.int x)), S, s) else none
  | _ => none
def c_X12_reasonToMove {α : Type} (as : List Value) (S : ga_S) (s : ga_M) (K : ga_O → Option α) : Option α := match as with
  | [.ref r0, .int a, .int b] => bif Nat.beq r0 72 then (f_X12_reasonToMove a b s).bind fun x => K (.inl (some (.int x)), S, s) else none
  | _ => none
def c_X12_isElsewhere {α : Type} (as : List Value) (S : ga_S) (s : ga_M) (K : ga_O → Option α) : Option α := match as with
  | [.ref r0, .int a, .int b, .int c] => bif Nat.beq r0 72 then (f_X12_isElsewhere a b c s).bind fun x => K (.inl (some (.int x)), S, s) else none
  | _ => none
def c_X12_reasonToExchange {α : Type} (as : List Value) (S : ga_S) (s : ga_M) (K : ga_O → Option α) : Option α := match as with
  | [.ref r0, .int a, .int b] => bif Nat.beq r0 72 then (f_X12_reasonToExchange a b s).bind fun x => K (.inl (some (.int x)), S, s) else none
  | _ => none
def c_X12_isQualified {α : Type} (as : List Value) (S : ga_S) (s : ga_M) (K : ga_O → Option α) : Option α := match as with
  | [.ref r0, .int a, .int b] => bif Nat.beq r0 72 then (f_X12_isQualified a b s).bind fun x => K (.inl (some (.int x)), S, s) else none
  | _ => none
def c_X12_isOnWay {α : Type} (as : List Value) (S : ga_S) (s : ga_M) (K : ga_O → Option α) : Option α := match as with
  | [.ref r0, .int a, .int b] => bif Nat.beq r0 72 then (f_X12_isOnWay a b s).bind fun x => K (.inl (some (.int x)), S, s) else none
  | _ => none
def c_X12_isTaught {α : Type} (as : List Value) (S : ga_S) (s : ga_M) (K : ga_O → Option α) : Option α := match as with
  | [.ref r0, .int a] => bif Nat.beq r0 72 then (f_X12_isTaught a s).bind fun x => K (.inl (some (.int x)), S, s) else none
  | _ => none
def c_X12_taughtBy {α : Type} (as : List Value) (S : ga_S) (s : ga_M) (K : ga_O → Option α) : Option α := match as with
  | [.ref r0, .int a] => bif Nat.beq r0 72 then (f_X12_taughtBy a s).bind fun x => K (.inl (some (.int x)), S, s) else none
  | _ => none
def c_X12_firstBy {α : Type} (as : List Value) (S : ga_S) (s : ga_M) (K : ga_O → Option α) : Option α := match as with
  | [.ref r0, .int a] => bif Nat.beq r0 72 then (f_X12_firstBy a s).bind fun x => K (.inl (some (.int x)), S, s) else none
  | _ => none
def c_X12_loadOf {α : Type} (as : List Value) (S : ga_S) (s : ga_M) (K : ga_O → Option α) : Option α := match as with
  | [.ref r0, .int a] => bif Nat.beq r0 72 then (f_X12_loadOf a s).bind fun x => K (.inl (some (.int x)), S, s) else none
  | _ => none
def c_X12_goes3 {α : Type} (as : List Value) (S : ga_S) (s : ga_M) (K : ga_O → Option α) : Option α := match as with
  | [.ref r0, .int a, .int b, .int c, .int d] => bif Nat.beq r0 72 then (f_X12_goes3 a b c d s).bind fun s1 => K (.inl none, S, s1) else none
  | _ => none
def c_X12_goes2 {α : Type} (as : List Value) (S : ga_S) (s : ga_M) (K : ga_O → Option α) : Option α := match as with
  | [.ref r0, .int a, .int b, .int c, .int d] => bif Nat.beq r0 72 then (f_X12_goes2 a b c d s).bind fun s1 => K (.inl none, S, s1) else none
  | _ => none
def c_X12_goes1 {α : Type} (as : List Value) (S : ga_S) (s : ga_M) (K : ga_O → Option α) : Option α := match as with
  | [.ref r0, .int a, .int b, .int c, .int d] => bif Nat.beq r0 72 then (f_X12_goes1 a b c d s).bind fun s1 => K (.inl none, S, s1) else none
  | _ => none
def c_X12_goes0 {α : Type} (as : List Value) (S : ga_S) (s : ga_M) (K : ga_O → Option α) : Option α := match as with
  | [.ref r0, .int a, .int b, .int c, .int d] => bif Nat.beq r0 72 then (f_X12_goes0 a b c d s).bind fun s1 => K (.inl none, S, s1) else none
  | _ => none
def c_X12_findChain {α : Type} (as : List Value) (S : ga_S) (s : ga_M) (K : ga_O → Option α) : Option α := match as with
  | [.ref r0, .int a] => bif Nat.beq r0 72 then (f_X12_findChain a s).bind fun q => K (.inl (some (.int q.1)), S, q.2) else none
  | _ => none
def c_X12_isTeacher {α : Type} (as : List Value) (S : ga_S) (s : ga_M) (K : ga_O → Option α) : Option α := match as with
  | [.ref r0, .int a] => bif Nat.beq r0 72 then K (.inl (some (.int (v_X12_isTeacher a s))), S, s) else none
  | _ => none
def c_X12_dutiesOf {α : Type} (as : List Value) (S : ga_S) (s : ga_M) (K : ga_O → Option α) : Option α := match as with
  | [.ref r0, .int a, .int b] => bif Nat.beq r0 72 then (f_X12_dutiesOf a b s).bind fun x => K (.inl (some (.int x)), S, s) else none
  | _ => none
def c_X12_reasonToWatch {α : Type} (as : List Value) (S : ga_S) (s : ga_M) (K : ga_O → Option α) : Option α := match as with
  | [.ref r0, .int a, .int b] => bif Nat.beq r0 72 then (f_X12_reasonToWatch a b s).bind fun x => K (.inl (some (.int x)), S, s) else none
  | _ => none
def c_X12_reasonToCover {α : Type} (as : List Value) (S : ga_S) (s : ga_M) (K : ga_O → Option α) : Option α := match as with
  | [.ref r0, .int a, .int b] => bif Nat.beq r0 72 then (f_X12_reasonToCover a b s).bind fun x => K (.inl (some (.int x)), S, s) else none
  | _ => none
def c_X12_isDay {α : Type} (as : List Value) (S : ga_S) (s : ga_M) (K : ga_O → Option α) : Option α := match as with
  | [.ref r0, .int a] => bif Nat.beq r0 72 then K (.inl (some (.int (v_X12_isDay a s))), S, s) else none
  | _ => none
def c_X12_canStep {α : Type} (as : List Value) (S : ga_S) (s : ga_M) (K : ga_O → Option α) : Option α := match as with
  | [.ref r0, .int a, .int b, .int c] => bif Nat.beq r0 72 then (f_X12_canStep a b c s).bind fun q => K (.inl (some (.int q.1)), S, q.2) else none
  | _ => none
def c_X12_opens {α : Type} (as : List Value) (S : ga_S) (s : ga_M) (K : ga_O → Option α) : Option α := match as with
  | [.ref r0, .int a] => bif Nat.beq r0 72 then (f_X12_opens a s).bind fun s1 => K (.inl none, S, s1) else none
  | _ => none
def c_X12_swaps {α : Type} (as : List Value) (S : ga_S) (s : ga_M) (K : ga_O → Option α) : Option α := match as with
  | [.ref r0, .int a, .int b] => bif Nat.beq r0 72 then (f_X12_swaps a b s).bind fun s1 => K (.inl none, S, s1) else none
  | _ => none
def c_X12_chains {α : Type} (as : List Value) (S : ga_S) (s : ga_M) (K : ga_O → Option α) : Option α := match as with
  | [.ref r0, .int a] => bif Nat.beq r0 72 then (f_X12_chains a s).bind fun s1 => K (.inl none, S, s1) else none
  | _ => none
def c_X12_repairsAll {α : Type} (as : List Value) (S : ga_S) (s : ga_M) (K : ga_O → Option α) : Option α := match as with
  | [.ref r0] => bif Nat.beq r0 72 then (f_X12_repairsAll s).bind fun q => K (.inl (some (.int q.1)), S, q.2) else none
  | _ => none
def c_X12_gives {α : Type} (as : List Value) (S : ga_S) (s : ga_M) (K : ga_O → Option α) : Option α := match as with
  | [.ref r0, .int a, .int b, .int c] => bif Nat.beq r0 72 then (f_X12_gives a b c s).bind fun s1 => K (.inl none, S, s1) else none
  | _ => none
def c_X12_absents {α : Type} (as : List Value) (S : ga_S) (s : ga_M) (K : ga_O → Option α) : Option α := match as with
  | [.ref r0, .int a, .int b, .int c] => bif Nat.beq r0 72 then (f_X12_absents a b c s).bind fun q => K (.inl (some (.int q.1)), S, q.2) else none
  | _ => none
def c_X12_doStep {α : Type} (as : List Value) (S : ga_S) (s : ga_M) (K : ga_O → Option α) : Option α := match as with
  | [.ref r0, .int a, .int b, .int c] => bif Nat.beq r0 72 then (f_X12_doStep a b c s).bind fun s1 => K (.inl none, S, s1) else none
  | _ => none
def c_X12_goesThrough {α : Type} (as : List Value) (S : ga_S) (s : ga_M) (K : ga_O → Option α) : Option α := match as with
  | [.ref r0] => bif Nat.beq r0 72 then (f_X12_goesThrough s).bind fun s1 => K (.inl none, S, s1) else none
  | _ => none
def c_X12_runScript {α : Type} (as : List Value) (S : ga_S) (s : ga_M) (K : ga_O → Option α) : Option α := match as with
  | [.ref r0] => bif Nat.beq r0 72 then (f_X12_runScript s).bind fun q => K (.inl (some (.int q.1)), S, q.2) else none
  | _ => none
def c_X11_errorCode {α : Type} (as : List Value) (S : ga_S) (s : ga_M) (K : ga_O → Option α) : Option α := match as with
  | [.ref r0] => bif Nat.beq r0 0 then K (.inl (some (.int (v_X11_errorCode s))), S, s) else none
  | _ => none
def c_X12_errorCode {α : Type} (as : List Value) (S : ga_S) (s : ga_M) (K : ga_O → Option α) : Option α := match as with
  | [.ref r0] => bif Nat.beq r0 72 then K (.inl (some (.int (v_X12_errorCode s).1)), S, (v_X12_errorCode s).2) else none
  | _ => none
def c_X11_errorPosition {α : Type} (as : List Value) (S : ga_S) (s : ga_M) (K : ga_O → Option α) : Option α := match as with
  | [.ref r0] => bif Nat.beq r0 0 then K (.inl (some (.int (v_X11_errorPosition s))), S, s) else none
  | _ => none
def c_X12_errorPosition {α : Type} (as : List Value) (S : ga_S) (s : ga_M) (K : ga_O → Option α) : Option α := match as with
  | [.ref r0] => bif Nat.beq r0 72 then K (.inl (some (.int (v_X12_errorPosition s).1)), S, (v_X12_errorPosition s).2) else none
  | _ => none
def c_X11_requireTeacher {α : Type} (as : List Value) (S : ga_S) (s : ga_M) (K : ga_O → Option α) : Option α := match as with
  | [.ref r0, .int a] => bif Nat.beq r0 0 then Option.elim (v_X11_requireTeacher a s) (K (.inl none, S, s)) fun E => K (.inr E, S, s) else none
  | _ => none
def c_X11_requireDay {α : Type} (as : List Value) (S : ga_S) (s : ga_M) (K : ga_O → Option α) : Option α := match as with
  | [.ref r0, .int a] => bif Nat.beq r0 0 then Option.elim (v_X11_requireDay a s) (K (.inl none, S, s)) fun E => K (.inr E, S, s) else none
  | _ => none
def c_X11_setAbsent {α : Type} (as : List Value) (S : ga_S) (s : ga_M) (K : ga_O → Option α) : Option α := match as with
  | [.ref r0, .int a, .int b, .int c] => bif Nat.beq r0 0 then (f_X11_setAbsent a b c s).bind fun q => Sum.elim (fun x => K (.inl (some (.int x)), S, q.2)) (fun E => K (.inr E, S, q.2)) q.1 else none
  | _ => none
def c_X12_fails {α : Type} (as : List Value) (S : ga_S) (s : ga_M) (K : ga_O → Option α) : Option α := match as with
  | [.ref r0, .int a, .int b] => bif Nat.beq r0 72 then (if a = 0 ∨ a = 1 then K (.inl (some (.int (v_X12_fails a b s).1)), S, (v_X12_fails a b s).2) else none) else none
  | _ => none
def c_X12_remember {α : Type} (as : List Value) (S : ga_S) (s : ga_M) (K : ga_O → Option α) : Option α := match as with
  | [.ref r0] => bif Nat.beq r0 72 then (f_X12_remember s).bind fun s1 => K (.inl none, S, s1) else none
  | _ => none
def c_X12_setAbsent {α : Type} (as : List Value) (S : ga_S) (s : ga_M) (K : ga_O → Option α) : Option α := match as with
  | [.ref r0, .int a, .int b, .int c] => bif Nat.beq r0 72 then (f_X12_setAbsent a b c s).bind fun q => K (.inl (some (.int q.1)), S, q.2) else none
  | _ => none
def c_X11_requireLesson {α : Type} (as : List Value) (S : ga_S) (s : ga_M) (K : ga_O → Option α) : Option α := match as with
  | [.ref r0, .int a] => bif Nat.beq r0 0 then Option.elim (v_X11_requireLesson a s) (K (.inl none, S, s)) fun E => K (.inr E, S, s) else none
  | _ => none
def c_X11_keepUnlessRefused {α : Type} (as : List Value) (S : ga_S) (s : ga_M) (K : ga_O → Option α) : Option α := match as with
  | [.ref r0, .int a] => bif Nat.beq r0 0 then (f_X11_keepUnlessRefused a s).bind fun q => Option.elim q.1 (K (.inl none, S, q.2)) fun E => K (.inr E, S, q.2) else none
  | _ => none
def c_X11_cover {α : Type} (as : List Value) (S : ga_S) (s : ga_M) (K : ga_O → Option α) : Option α := match as with
  | [.ref r0, .int a, .int b] => bif Nat.beq r0 0 then (f_X11_cover a b s).bind fun q => Sum.elim (fun x => K (.inl (some (.int x)), S, q.2)) (fun E => K (.inr E, S, q.2)) q.1 else none
  | _ => none
def c_X12_cover {α : Type} (as : List Value) (S : ga_S) (s : ga_M) (K : ga_O → Option α) : Option α := match as with
  | [.ref r0, .int a, .int b] => bif Nat.beq r0 72 then (f_X12_cover a b s).bind fun q => K (.inl (some (.int q.1)), S, q.2) else none
  | _ => none
def c_X3_dutiesOf {α : Type} (as : List Value) (S : ga_S) (s : ga_M) (K : ga_O → Option α) : Option α := match as with
  | [.ref r0, .int a] => bif Nat.beq r0 20 then (f_X3_dutiesOf a s).bind fun x => K (.inl (some (.int x)), S, s) else none
  | _ => none
def c_X11_supervise {α : Type} (as : List Value) (S : ga_S) (s : ga_M) (K : ga_O → Option α) : Option α := match as with
  | [.ref r0, .int a, .int b] => bif Nat.beq r0 0 then (f_X11_supervise a b s).bind fun q => Sum.elim (fun x => K (.inl (some (.int x)), S, q.2)) (fun E => K (.inr E, S, q.2)) q.1 else none
  | _ => none
def c_X12_supervise {α : Type} (as : List Value) (S : ga_S) (s : ga_M) (K : ga_O → Option α) : Option α := match as with
  | [.ref r0, .int a, .int b] => bif Nat.beq r0 72 then (f_X12_supervise a b s).bind fun q => K (.inl (some (.int q.1)), S, q.2) else none
  | _ => none
def c_X11_repair {α : Type} (as : List Value) (S : ga_S) (s : ga_M) (K : ga_O → Option α) : Option α := match as with
  | [.ref r0, .int a] => bif Nat.beq r0 0 then (f_X11_repair a s).bind fun q => Sum.elim (fun x => K (.inl (some (.int x)), S, q.2)) (fun E => K (.inr E, S, q.2)) q.1 else none
  | _ => none
def c_X12_repair {α : Type} (as : List Value) (S : ga_S) (s : ga_M) (K : ga_O → Option α) : Option α := match as with
  | [.ref r0, .int a] => bif Nat.beq r0 72 then (f_X12_repair a s).bind fun q => K (.inl (some (.int q.1)), S, q.2) else none
  | _ => none
def c_X11_repairAll {α : Type} (as : List Value) (S : ga_S) (s : ga_M) (K : ga_O → Option α) : Option α := match as with
  | [.ref r0] => bif Nat.beq r0 0 then (f_X11_repairAll s).bind fun q => K (.inl (some (.int q.1)), S, q.2) else none
  | _ => none
def c_X12_repairAll {α : Type} (as : List Value) (S : ga_S) (s : ga_M) (K : ga_O → Option α) : Option α := match as with
  | [.ref r0] => bif Nat.beq r0 72 then (f_X12_repairAll s).bind fun q => K (.inl (some (.int q.1)), S, q.2) else none
  | _ => none
def c_X11_exchange {α : Type} (as : List Value) (S : ga_S) (s : ga_M) (K : ga_O → Option α) : Option α := match as with
  | [.ref r0, .int a, .int b] => bif Nat.beq r0 0 then (f_X11_exchange a b s).bind fun q => Sum.elim (fun x => K (.inl (some (.int x)), S, q.2)) (fun E => K (.inr E, S, q.2)) q.1 else none
  | _ => none
def c_X12_exchange {α : Type} (as : List Value) (S : ga_S) (s : ga_M) (K : ga_O → Option α) : Option α := match as with
  | [.ref r0, .int a, .int b] => bif Nat.beq r0 72 then (f_X12_exchange a b s).bind fun q => K (.inl (some (.int q.1)), S, q.2) else none
  | _ => none
def c_X11_requireSlot {α : Type} (as : List Value) (S : ga_S) (s : ga_M) (K : ga_O → Option α) : Option α := match as with
  | [.ref r0, .int a] => bif Nat.beq r0 0 then Option.elim (v_X11_requireSlot a s) (K (.inl none, S, s)) fun E => K (.inr E, S, s) else none
  | _ => none
def c_X11_move {α : Type} (as : List Value) (S : ga_S) (s : ga_M) (K : ga_O → Option α) : Option α := match as with
  | [.ref r0, .int a, .int b] => bif Nat.beq r0 0 then (f_X11_move a b s).bind fun q => Sum.elim (fun x => K (.inl (some (.int x)), S, q.2)) (fun E => K (.inr E, S, q.2)) q.1 else none
  | _ => none
def c_X12_move {α : Type} (as : List Value) (S : ga_S) (s : ga_M) (K : ga_O → Option α) : Option α := match as with
  | [.ref r0, .int a, .int b] => bif Nat.beq r0 72 then (f_X12_move a b s).bind fun q => K (.inl (some (.int q.1)), S, q.2) else none
  | _ => none
def c_X11_requireRoom {α : Type} (as : List Value) (S : ga_S) (s : ga_M) (K : ga_O → Option α) : Option α := match as with
  | [.ref r0, .int a] => bif Nat.beq r0 0 then Option.elim (v_X11_requireRoom a s) (K (.inl none, S, s)) fun E => K (.inr E, S, s) else none
  | _ => none
def c_X11_setRoom {α : Type} (as : List Value) (S : ga_S) (s : ga_M) (K : ga_O → Option α) : Option α := match as with
  | [.ref r0, .int a, .int b] => bif Nat.beq r0 0 then (f_X11_setRoom a b s).bind fun q => Sum.elim (fun x => K (.inl (some (.int x)), S, q.2)) (fun E => K (.inr E, S, q.2)) q.1 else none
  | _ => none
def c_X12_setRoom {α : Type} (as : List Value) (S : ga_S) (s : ga_M) (K : ga_O → Option α) : Option α := match as with
  | [.ref r0, .int a, .int b] => bif Nat.beq r0 72 then (f_X12_setRoom a b s).bind fun q => K (.inl (some (.int q.1)), S, q.2) else none
  | _ => none
def c_X11_reopen {α : Type} (as : List Value) (S : ga_S) (s : ga_M) (K : ga_O → Option α) : Option α := match as with
  | [.ref r0, .int a] => bif Nat.beq r0 0 then (f_X11_reopen a s).bind fun q => Sum.elim (fun x => K (.inl (some (.int x)), S, q.2)) (fun E => K (.inr E, S, q.2)) q.1 else none
  | _ => none
def c_X12_reopen {α : Type} (as : List Value) (S : ga_S) (s : ga_M) (K : ga_O → Option α) : Option α := match as with
  | [.ref r0, .int a] => bif Nat.beq r0 72 then (f_X12_reopen a s).bind fun q => K (.inl (some (.int q.1)), S, q.2) else none
  | _ => none
def c_X3_differs {α : Type} (as : List Value) (S : ga_S) (s : ga_M) (K : ga_O → Option α) : Option α := match as with
  | [.ref r0, .int a] => bif Nat.beq r0 20 then K (.inl (some (.int (v_X3_differs a s))), S, s) else none
  | _ => none
def c_X3_differingLessons {α : Type} (as : List Value) (S : ga_S) (s : ga_M) (K : ga_O → Option α) : Option α := match as with
  | [.ref r0] => bif Nat.beq r0 20 then (f_X3_differingLessons s).bind fun x => K (.inl (some (.int x)), S, s) else none
  | _ => none
def c_X11_reset {α : Type} (as : List Value) (S : ga_S) (s : ga_M) (K : ga_O → Option α) : Option α := match as with
  | [.ref r0] => bif Nat.beq r0 0 then (f_X11_reset s).bind fun q => K (.inl (some (.int q.1)), S, q.2) else none
  | _ => none
def c_X12_differs {α : Type} (as : List Value) (S : ga_S) (s : ga_M) (K : ga_O → Option α) : Option α := match as with
  | [.ref r0, .int a] => bif Nat.beq r0 72 then (f_X12_differs a s).bind fun x => K (.inl (some (.int x)), S, s) else none
  | _ => none
def c_X12_differences {α : Type} (as : List Value) (S : ga_S) (s : ga_M) (K : ga_O → Option α) : Option α := match as with
  | [.ref r0] => bif Nat.beq r0 72 then (f_X12_differences s).bind fun x => K (.inl (some (.int x)), S, s) else none
  | _ => none
def c_X12_reset {α : Type} (as : List Value) (S : ga_S) (s : ga_M) (K : ga_O → Option α) : Option α := match as with
  | [.ref r0] => bif Nat.beq r0 72 then (f_X12_reset s).bind fun q => K (.inl (some (.int q.1)), S, q.2) else none
  | _ => none
def c_X11_whyNotCover {α : Type} (as : List Value) (S : ga_S) (s : ga_M) (K : ga_O → Option α) : Option α := match as with
  | [.ref r0, .int a, .int b] => bif Nat.beq r0 0 then (f_X11_whyNotCover a b s).bind fun q => Sum.elim (fun x => K (.inl (some (.int x)), S, s)) (fun E => K (.inr E, S, s)) q else none
  | _ => none
def c_X12_whyNotCover {α : Type} (as : List Value) (S : ga_S) (s : ga_M) (K : ga_O → Option α) : Option α := match as with
  | [.ref r0, .int a, .int b] => bif Nat.beq r0 72 then (f_X12_whyNotCover a b s).bind fun q => K (.inl (some (.int q.1)), S, q.2) else none
  | _ => none
def c_X11_whyNotSupervise {α : Type} (as : List Value) (S : ga_S) (s : ga_M) (K : ga_O → Option α) : Option α := match as with
  | [.ref r0, .int a, .int b] => bif Nat.beq r0 0 then (f_X11_whyNotSupervise a b s).bind fun q => Sum.elim (fun x => K (.inl (some (.int x)), S, s)) (fun E => K (.inr E, S, s)) q else none
  | _ => none
def c_X12_whyNotSupervise {α : Type} (as : List Value) (S : ga_S) (s : ga_M) (K : ga_O → Option α) : Option α := match as with
  | [.ref r0, .int a, .int b] => bif Nat.beq r0 72 then (f_X12_whyNotSupervise a b s).bind fun q => K (.inl (some (.int q.1)), S, q.2) else none
  | _ => none
def c_X11_whyNotExchange {α : Type} (as : List Value) (S : ga_S) (s : ga_M) (K : ga_O → Option α) : Option α := match as with
  | [.ref r0, .int a, .int b] => bif Nat.beq r0 0 then (f_X11_whyNotExchange a b s).bind fun q => Sum.elim (fun x => K (.inl (some (.int x)), S, s)) (fun E => K (.inr E, S, s)) q else none
  | _ => none
def c_X12_whyNotExchange {α : Type} (as : List Value) (S : ga_S) (s : ga_M) (K : ga_O → Option α) : Option α := match as with
  | [.ref r0, .int a, .int b] => bif Nat.beq r0 72 then (f_X12_whyNotExchange a b s).bind fun q => K (.inl (some (.int q.1)), S, q.2) else none
  | _ => none
def c_X11_whyNotMove {α : Type} (as : List Value) (S : ga_S) (s : ga_M) (K : ga_O → Option α) : Option α := match as with
  | [.ref r0, .int a, .int b] => bif Nat.beq r0 0 then (f_X11_whyNotMove a b s).bind fun q => Sum.elim (fun x => K (.inl (some (.int x)), S, s)) (fun E => K (.inr E, S, s)) q else none
  | _ => none
def c_X12_whyNotMove {α : Type} (as : List Value) (S : ga_S) (s : ga_M) (K : ga_O → Option α) : Option α := match as with
  | [.ref r0, .int a, .int b] => bif Nat.beq r0 72 then (f_X12_whyNotMove a b s).bind fun q => K (.inl (some (.int q.1)), S, q.2) else none
  | _ => none
def c_X11_whyNotRoom {α : Type} (as : List Value) (S : ga_S) (s : ga_M) (K : ga_O → Option α) : Option α := match as with
  | [.ref r0, .int a, .int b] => bif Nat.beq r0 0 then (f_X11_whyNotRoom a b s).bind fun q => Sum.elim (fun x => K (.inl (some (.int x)), S, s)) (fun E => K (.inr E, S, s)) q else none
  | _ => none
def c_X12_whyNotRoom {α : Type} (as : List Value) (S : ga_S) (s : ga_M) (K : ga_O → Option α) : Option α := match as with
  | [.ref r0, .int a, .int b] => bif Nat.beq r0 72 then (f_X12_whyNotRoom a b s).bind fun q => K (.inl (some (.int q.1)), S, q.2) else none
  | _ => none
def c_X11_candidates {α : Type} (as : List Value) (S : ga_S) (s : ga_M) (K : ga_O → Option α) : Option α := match as with
  | [.ref r0, .int a] => bif Nat.beq r0 0 then (f_X11_candidates a s).bind fun q => Sum.elim (fun x => K (.inl (some (.int x)), S, s)) (fun E => K (.inr E, S, s)) q else none
  | _ => none
def c_X12_candidates {α : Type} (as : List Value) (S : ga_S) (s : ga_M) (K : ga_O → Option α) : Option α := match as with
  | [.ref r0, .int a] => bif Nat.beq r0 72 then (f_X12_candidates a s).bind fun q => K (.inl (some (.int q.1)), S, q.2) else none
  | _ => none
def c_X11_chain {α : Type} (as : List Value) (S : ga_S) (s : ga_M) (K : ga_O → Option α) : Option α := match as with
  | [.ref r0, .int a] => bif Nat.beq r0 0 then (f_X11_chain a s).bind fun q => Sum.elim (fun x => K (.inl (some (.int x)), S, q.2)) (fun E => K (.inr E, S, q.2)) q.1 else none
  | _ => none
def c_X12_chain {α : Type} (as : List Value) (S : ga_S) (s : ga_M) (K : ga_O → Option α) : Option α := match as with
  | [.ref r0, .int a] => bif Nat.beq r0 72 then (f_X12_chain a s).bind fun q => K (.inl (some (.int q.1)), S, q.2) else none
  | _ => none
def c_X11_chainTeacher {α : Type} (as : List Value) (S : ga_S) (s : ga_M) (K : ga_O → Option α) : Option α := match as with
  | [.ref r0, .int a, .int b] => bif Nat.beq r0 0 then (f_X11_chainTeacher a b s).bind fun q => Sum.elim (fun x => K (.inl (some (.int x)), S, q.2)) (fun E => K (.inr E, S, q.2)) q.1 else none
  | _ => none
def c_X12_chainTeacher {α : Type} (as : List Value) (S : ga_S) (s : ga_M) (K : ga_O → Option α) : Option α := match as with
  | [.ref r0, .int a, .int b] => bif Nat.beq r0 72 then (f_X12_chainTeacher a b s).bind fun q => K (.inl (some (.int q.1)), S, q.2) else none
  | _ => none
def c_X11_partners {α : Type} (as : List Value) (S : ga_S) (s : ga_M) (K : ga_O → Option α) : Option α := match as with
  | [.ref r0, .int a] => bif Nat.beq r0 0 then (f_X11_partners a s).bind fun q => Sum.elim (fun x => K (.inl (some (.int x)), S, s)) (fun E => K (.inr E, S, s)) q else none
  | _ => none
def c_X12_partnerOf {α : Type} (as : List Value) (S : ga_S) (s : ga_M) (K : ga_O → Option α) : Option α := match as with
  | [.ref r0, .int a, .int b] => bif Nat.beq r0 72 then (f_X12_partnerOf a b s).bind fun x => K (.inl (some (.int x)), S, s) else none
  | _ => none
def c_X12_partners {α : Type} (as : List Value) (S : ga_S) (s : ga_M) (K : ga_O → Option α) : Option α := match as with
  | [.ref r0, .int a] => bif Nat.beq r0 72 then (f_X12_partners a s).bind fun q => K (.inl (some (.int q.1)), S, q.2) else none
  | _ => none
def c_X11_firstPartner {α : Type} (as : List Value) (S : ga_S) (s : ga_M) (K : ga_O → Option α) : Option α := match as with
  | [.ref r0, .int a] => bif Nat.beq r0 0 then (f_X11_firstPartner a s).bind fun q => Sum.elim (fun x => K (.inl (some (.int x)), S, s)) (fun E => K (.inr E, S, s)) q else none
  | _ => none
def c_X12_firstPartner {α : Type} (as : List Value) (S : ga_S) (s : ga_M) (K : ga_O → Option α) : Option α := match as with
  | [.ref r0, .int a] => bif Nat.beq r0 72 then (f_X12_firstPartner a s).bind fun q => K (.inl (some (.int q.1)), S, q.2) else none
  | _ => none
def c_X11_slotsFor {α : Type} (as : List Value) (S : ga_S) (s : ga_M) (K : ga_O → Option α) : Option α := match as with
  | [.ref r0, .int a] => bif Nat.beq r0 0 then (f_X11_slotsFor a s).bind fun q => Sum.elim (fun x => K (.inl (some (.int x)), S, s)) (fun E => K (.inr E, S, s)) q else none
  | _ => none
def c_X12_slotsFor {α : Type} (as : List Value) (S : ga_S) (s : ga_M) (K : ga_O → Option α) : Option α := match as with
  | [.ref r0, .int a] => bif Nat.beq r0 72 then (f_X12_slotsFor a s).bind fun q => K (.inl (some (.int q.1)), S, q.2) else none
  | _ => none
def c_X7_lessonsWith {α : Type} (as : List Value) (S : ga_S) (s : ga_M) (K : ga_O → Option α) : Option α := match as with
  | [.ref r0, .ref r1, .int a] => bif Nat.beq r0 1 && Nat.beq r1 27 then (f_X7_lessonsWith_27 a s).bind fun x => K (.inl (some (.int x)), S, s) else bif Nat.beq r0 1 && Nat.beq r1 23 then (f_X7_lessonsWith_23 a s).bind fun x => K (.inl (some (.int x)), S, s) else bif Nat.beq r0 1 && Nat.beq r1 16 then (f_X7_lessonsWith_16 a s).bind fun x => K (.inl (some (.int x)), S, s) else bif Nat.beq r0 1 && Nat.beq r1 25 then (f_X7_lessonsWith_25 a s).bind fun x => K (.inl (some (.int x)), S, s) else bif Nat.beq r0 1 && Nat.beq r1 12 then (f_X7_lessonsWith_12 a s).bind fun x => K (.inl (some (.int x)), S, s) else none
  | _ => none
def c_X3_supervisedLessons {α : Type} (as : List Value) (S : ga_S) (s : ga_M) (K : ga_O → Option α) : Option α := match as with
  | [.ref r0] => bif Nat.beq r0 20 then (f_X3_supervisedLessons s).bind fun x => K (.inl (some (.int x)), S, s) else none
  | _ => none
def c_X3_openLessons {α : Type} (as : List Value) (S : ga_S) (s : ga_M) (K : ga_O → Option α) : Option α := match as with
  | [.ref r0] => bif Nat.beq r0 20 then (f_X3_openLessons s).bind fun x => K (.inl (some (.int x)), S, s) else none
  | _ => none
def c_X11_count {α : Type} (as : List Value) (S : ga_S) (s : ga_M) (K : ga_O → Option α) : Option α := match as with
  | [.ref r0, .int a] => bif Nat.beq r0 0 then (f_X11_count a s).bind fun q => Sum.elim (fun x => K (.inl (some (.int x)), S, s)) (fun E => K (.inr E, S, s)) q else none
  | _ => none
def c_X12_watchedMany {α : Type} (as : List Value) (S : ga_S) (s : ga_M) (K : ga_O → Option α) : Option α := match as with
  | [.ref r0] => bif Nat.beq r0 72 then (f_X12_watchedMany s).bind fun x => K (.inl (some (.int x)), S, s) else none
  | _ => none
def c_X12_openMany {α : Type} (as : List Value) (S : ga_S) (s : ga_M) (K : ga_O → Option α) : Option α := match as with
  | [.ref r0] => bif Nat.beq r0 72 then (f_X12_openMany s).bind fun x => K (.inl (some (.int x)), S, s) else none
  | _ => none
def c_X12_count {α : Type} (as : List Value) (S : ga_S) (s : ga_M) (K : ga_O → Option α) : Option α := match as with
  | [.ref r0, .int a] => bif Nat.beq r0 72 then (f_X12_count a s).bind fun q => K (.inl (some (.int q.1)), S, q.2) else none
  | _ => none
def c_X11_lesson {α : Type} (as : List Value) (S : ga_S) (s : ga_M) (K : ga_O → Option α) : Option α := match as with
  | [.ref r0, .int a, .int b] => bif Nat.beq r0 0 then (f_X11_lesson a b s).bind fun q => Sum.elim (fun x => K (.inl (some (.int x)), S, s)) (fun E => K (.inr E, S, s)) q else none
  | _ => none
def c_X12_lesson {α : Type} (as : List Value) (S : ga_S) (s : ga_M) (K : ga_O → Option α) : Option α := match as with
  | [.ref r0, .int a, .int b] => bif Nat.beq r0 72 then (f_X12_lesson a b s).bind fun q => K (.inl (some (.int q.1)), S, q.2) else none
  | _ => none
def c_X3_taughtBy {α : Type} (as : List Value) (S : ga_S) (s : ga_M) (K : ga_O → Option α) : Option α := match as with
  | [.ref r0, .int a] => bif Nat.beq r0 20 then (f_X3_taughtBy a s).bind fun x => K (.inl (some (.int x)), S, s) else none
  | _ => none
def c_X11_teacher {α : Type} (as : List Value) (S : ga_S) (s : ga_M) (K : ga_O → Option α) : Option α := match as with
  | [.ref r0, .int a, .int b] => bif Nat.beq r0 0 then (f_X11_teacher a b s).bind fun q => Sum.elim (fun x => K (.inl (some (.int x)), S, s)) (fun E => K (.inr E, S, s)) q else none
  | _ => none
def c_X12_teacher {α : Type} (as : List Value) (S : ga_S) (s : ga_M) (K : ga_O → Option α) : Option α := match as with
  | [.ref r0, .int a, .int b] => bif Nat.beq r0 72 then (f_X12_teacher a b s).bind fun q => K (.inl (some (.int q.1)), S, q.2) else none
  | _ => none
def c_X11_room {α : Type} (as : List Value) (S : ga_S) (s : ga_M) (K : ga_O → Option α) : Option α := match as with
  | [.ref r0, .int a, .int b] => bif Nat.beq r0 0 then (f_X11_room a b s).bind fun q => Sum.elim (fun x => K (.inl (some (.int x)), S, s)) (fun E => K (.inr E, S, s)) q else none
  | _ => none
def c_X12_room {α : Type} (as : List Value) (S : ga_S) (s : ga_M) (K : ga_O → Option α) : Option α := match as with
  | [.ref r0, .int a, .int b] => bif Nat.beq r0 72 then (f_X12_room a b s).bind fun q => K (.inl (some (.int q.1)), S, q.2) else none
  | _ => none
def c_X11_subject {α : Type} (as : List Value) (S : ga_S) (s : ga_M) (K : ga_O → Option α) : Option α := match as with
  | [.ref r0, .int a, .int b] => bif Nat.beq r0 0 then (f_X11_subject a b s).bind fun q => Sum.elim (fun x => K (.inl (some (.int x)), S, s)) (fun E => K (.inr E, S, s)) q else none
  | _ => none
def c_X12_subject {α : Type} (as : List Value) (S : ga_S) (s : ga_M) (K : ga_O → Option α) : Option α := match as with
  | [.ref r0, .int a, .int b] => bif Nat.beq r0 72 then (f_X12_subject a b s).bind fun q => K (.inl (some (.int q.1)), S, q.2) else none
  | _ => none
def c_X11_requireClass {α : Type} (as : List Value) (S : ga_S) (s : ga_M) (K : ga_O → Option α) : Option α := match as with
  | [.ref r0, .int a] => bif Nat.beq r0 0 then Option.elim (v_X11_requireClass a s) (K (.inl none, S, s)) fun E => K (.inr E, S, s) else none
  | _ => none
def c_X11_lessonOfClass {α : Type} (as : List Value) (S : ga_S) (s : ga_M) (K : ga_O → Option α) : Option α := match as with
  | [.ref r0, .int a, .int b] => bif Nat.beq r0 0 then (f_X11_lessonOfClass a b s).bind fun q => Sum.elim (fun x => K (.inl (some (.int x)), S, s)) (fun E => K (.inr E, S, s)) q else none
  | _ => none
def c_X12_isClass {α : Type} (as : List Value) (S : ga_S) (s : ga_M) (K : ga_O → Option α) : Option α := match as with
  | [.ref r0, .int a] => bif Nat.beq r0 72 then K (.inl (some (.int (v_X12_isClass a s))), S, s) else none
  | _ => none
def c_X12_lessonOfClass {α : Type} (as : List Value) (S : ga_S) (s : ga_M) (K : ga_O → Option α) : Option α := match as with
  | [.ref r0, .int a, .int b] => bif Nat.beq r0 72 then (f_X12_lessonOfClass a b s).bind fun q => K (.inl (some (.int q.1)), S, q.2) else none
  | _ => none
def c_X11_lessonOfTeacher {α : Type} (as : List Value) (S : ga_S) (s : ga_M) (K : ga_O → Option α) : Option α := match as with
  | [.ref r0, .int a, .int b] => bif Nat.beq r0 0 then (f_X11_lessonOfTeacher a b s).bind fun q => Sum.elim (fun x => K (.inl (some (.int x)), S, s)) (fun E => K (.inr E, S, s)) q else none
  | _ => none
def c_X12_lessonOfTeacher {α : Type} (as : List Value) (S : ga_S) (s : ga_M) (K : ga_O → Option α) : Option α := match as with
  | [.ref r0, .int a, .int b] => bif Nat.beq r0 72 then (f_X12_lessonOfTeacher a b s).bind fun q => K (.inl (some (.int q.1)), S, q.2) else none
  | _ => none
def c_X11_lessonInRoom {α : Type} (as : List Value) (S : ga_S) (s : ga_M) (K : ga_O → Option α) : Option α := match as with
  | [.ref r0, .int a, .int b] => bif Nat.beq r0 0 then (f_X11_lessonInRoom a b s).bind fun q => Sum.elim (fun x => K (.inl (some (.int x)), S, s)) (fun E => K (.inr E, S, s)) q else none
  | _ => none
def c_X12_lessonInRoom {α : Type} (as : List Value) (S : ga_S) (s : ga_M) (K : ga_O → Option α) : Option α := match as with
  | [.ref r0, .int a, .int b] => bif Nat.beq r0 72 then (f_X12_lessonInRoom a b s).bind fun q => K (.inl (some (.int q.1)), S, q.2) else none
  | _ => none
def c_X11_freeTeachers {α : Type} (as : List Value) (S : ga_S) (s : ga_M) (K : ga_O → Option α) : Option α := match as with
  | [.ref r0, .int a] => bif Nat.beq r0 0 then (f_X11_freeTeachers a s).bind fun q => Sum.elim (fun x => K (.inl (some (.int x)), S, s)) (fun E => K (.inr E, S, s)) q else none
  | _ => none
def c_X12_freeTeachers {α : Type} (as : List Value) (S : ga_S) (s : ga_M) (K : ga_O → Option α) : Option α := match as with
  | [.ref r0, .int a] => bif Nat.beq r0 72 then (f_X12_freeTeachers a s).bind fun q => K (.inl (some (.int q.1)), S, q.2) else none
  | _ => none
def c_X11_freeRooms {α : Type} (as : List Value) (S : ga_S) (s : ga_M) (K : ga_O → Option α) : Option α := match as with
  | [.ref r0, .int a, .int b] => bif Nat.beq r0 0 then (f_X11_freeRooms a b s).bind fun q => Sum.elim (fun x => K (.inl (some (.int x)), S, s)) (fun E => K (.inr E, S, s)) q else none
  | _ => none
def c_X12_freeRooms {α : Type} (as : List Value) (S : ga_S) (s : ga_M) (K : ga_O → Option α) : Option α := match as with
  | [.ref r0, .int a, .int b] => bif Nat.beq r0 72 then (f_X12_freeRooms a b s).bind fun q => K (.inl (some (.int q.1)), S, q.2) else none
  | _ => none
def c_X11_openLesson {α : Type} (as : List Value) (S : ga_S) (s : ga_M) (K : ga_O → Option α) : Option α := match as with
  | [.ref r0, .int a] => bif Nat.beq r0 0 then (f_X11_openLesson a s).bind fun q => Sum.elim (fun x => K (.inl (some (.int x)), S, s)) (fun E => K (.inr E, S, s)) q else none
  | _ => none
def c_X12_lessonAt {α : Type} (as : List Value) (S : ga_S) (s : ga_M) (K : ga_O → Option α) : Option α := match as with
  | [.ref r0, .int a, .int b] => bif Nat.beq r0 72 then (f_X12_lessonAt a b s).bind fun x => K (.inl (some (.int x)), S, s) else none
  | _ => none
def c_X12_openLesson {α : Type} (as : List Value) (S : ga_S) (s : ga_M) (K : ga_O → Option α) : Option α := match as with
  | [.ref r0, .int a] => bif Nat.beq r0 72 then (f_X12_openLesson a s).bind fun q => K (.inl (some (.int q.1)), S, q.2) else none
  | _ => none
def c_X11_difference {α : Type} (as : List Value) (S : ga_S) (s : ga_M) (K : ga_O → Option α) : Option α := match as with
  | [.ref r0, .int a] => bif Nat.beq r0 0 then (f_X11_difference a s).bind fun q => Sum.elim (fun x => K (.inl (some (.int x)), S, s)) (fun E => K (.inr E, S, s)) q else none
  | _ => none
def c_X12_difference {α : Type} (as : List Value) (S : ga_S) (s : ga_M) (K : ga_O → Option α) : Option α := match as with
  | [.ref r0, .int a] => bif Nat.beq r0 72 then (f_X12_difference a s).bind fun q => K (.inl (some (.int q.1)), S, q.2) else none
  | _ => none
def c_X3_windowsOf {α : Type} (as : List Value) (S : ga_S) (s : ga_M) (K : ga_O → Option α) : Option α := match as with
  | [.ref r0, .ref r1, .int a, .int b] => bif Nat.beq r0 20 && Nat.beq r1 23 then (f_X3_windowsOf_23 a b s).bind fun x => K (.inl (some (.int x)), S, s) else bif Nat.beq r0 20 && Nat.beq r1 10 then (f_X3_windowsOf_10 a b s).bind fun x => K (.inl (some (.int x)), S, s) else none
  | _ => none
def c_X11_windows {α : Type} (as : List Value) (S : ga_S) (s : ga_M) (K : ga_O → Option α) : Option α := match as with
  | [.ref r0, .int a, .int b] => bif Nat.beq r0 0 then (f_X11_windows a b s).bind fun q => Sum.elim (fun x => K (.inl (some (.int x)), S, s)) (fun E => K (.inr E, S, s)) q else none
  | _ => none
def c_X12_gapsIn {α : Type} (as : List Value) (S : ga_S) (s : ga_M) (K : ga_O → Option α) : Option α := match as with
  | [.ref r0, .int a] => bif Nat.beq r0 72 then (f_X12_gapsIn a s).bind fun x => K (.inl (some (.int x)), S, s) else none
  | _ => none
def c_X12_windows {α : Type} (as : List Value) (S : ga_S) (s : ga_M) (K : ga_O → Option α) : Option α := match as with
  | [.ref r0, .int a, .int b] => bif Nat.beq r0 72 then (f_X12_windows a b s).bind fun q => K (.inl (some (.int q.1)), S, q.2) else none
  | _ => none
def c_X11_classWindows {α : Type} (as : List Value) (S : ga_S) (s : ga_M) (K : ga_O → Option α) : Option α := match as with
  | [.ref r0, .int a, .int b] => bif Nat.beq r0 0 then (f_X11_classWindows a b s).bind fun q => Sum.elim (fun x => K (.inl (some (.int x)), S, s)) (fun E => K (.inr E, S, s)) q else none
  | _ => none
def c_X12_classWindows {α : Type} (as : List Value) (S : ga_S) (s : ga_M) (K : ga_O → Option α) : Option α := match as with
  | [.ref r0, .int a, .int b] => bif Nat.beq r0 72 then (f_X12_classWindows a b s).bind fun q => K (.inl (some (.int q.1)), S, q.2) else none
  | _ => none
def c_J9_max_7cf53 {α : Type} (as : List Value) (S : ga_S) (s : ga_M) (K : ga_O → Option α) : Option α := match as with
  | [.int a, .int b] => K (.inl (some (.int (v_J9_max_7cf53 a b s))), S, s)
  | _ => none
def c_X11_spread {α : Type} (as : List Value) (S : ga_S) (s : ga_M) (K : ga_O → Option α) : Option α := match as with
  | [.ref r0] => bif Nat.beq r0 0 then (f_X11_spread s).bind fun x => K (.inl (some (.int x)), S, s) else none
  | _ => none
def c_X12_spread {α : Type} (as : List Value) (S : ga_S) (s : ga_M) (K : ga_O → Option α) : Option α := match as with
  | [.ref r0] => bif Nat.beq r0 72 then (f_X12_spread s).bind fun q => K (.inl (some (.int q.1)), S, q.2) else none
  | _ => none
def c_X3_taughtLessons {α : Type} (as : List Value) (S : ga_S) (s : ga_M) (K : ga_O → Option α) : Option α := match as with
  | [.ref r0] => bif Nat.beq r0 20 then (f_X3_taughtLessons s).bind fun x => K (.inl (some (.int x)), S, s) else none
  | _ => none
def c_X11_taughtShare {α : Type} (as : List Value) (S : ga_S) (s : ga_M) (K : ga_O → Option α) : Option α := match as with
  | [.ref r0] => bif Nat.beq r0 0 then (f_X11_taughtShare s).bind fun x => K (.inl (some (.double x)), S, s) else none
  | _ => none
def c_X12_taughtShare {α : Type} (as : List Value) (S : ga_S) (s : ga_M) (K : ga_O → Option α) : Option α := match as with
  | [.ref r0] => bif Nat.beq r0 72 then (f_X12_taughtShare s).bind fun q => K (.inl (some (.double q.1)), S, q.2) else none
  | _ => none
def c_X5_append {α : Type} (as : List Value) (S : ga_S) (s : ga_M) (K : ga_O → Option α) : Option α := match as with
  | [.ref r0, .int a] => bif Nat.beq r0 69 then K (.inl none, S, v_X5_append a s) else none
  | _ => none
def c_X5_writeLesson {α : Type} (as : List Value) (S : ga_S) (s : ga_M) (K : ga_O → Option α) : Option α := match as with
  | [.ref r0, .int a] => bif Nat.beq r0 69 then K (.inl none, S, v_X5_writeLesson a s) else none
  | _ => none
def c_X5_write {α : Type} (as : List Value) (S : ga_S) (s : ga_M) (K : ga_O → Option α) : Option α := match as with
  | [.ref r0, .int a] => bif Nat.beq r0 69 then (f_X5_write a s).bind fun s1 => K (.inl none, S, s1) else none
  | _ => none
def c_X11_writeReport {α : Type} (as : List Value) (S : ga_S) (s : ga_M) (K : ga_O → Option α) : Option α := match as with
  | [.ref r0, .int a] => bif Nat.beq r0 0 then (f_X11_writeReport a s).bind fun q => Sum.elim (fun x => K (.inl (some (.int x)), S, q.2)) (fun E => K (.inr E, S, q.2)) q.1 else none
  | _ => none
def c_X12_print {α : Type} (as : List Value) (S : ga_S) (s : ga_M) (K : ga_O → Option α) : Option α := match as with
  | [.ref r0, .int a] => bif Nat.beq r0 72 then (f_X12_print a s).bind fun s1 => K (.inl none, S, s1) else none
  | _ => none
def c_X12_printLesson {α : Type} (as : List Value) (S : ga_S) (s : ga_M) (K : ga_O → Option α) : Option α := match as with
  | [.ref r0, .int a] => bif Nat.beq r0 72 then (f_X12_printLesson a s).bind fun s1 => K (.inl none, S, s1) else none
  | _ => none
def c_X12_writeReport {α : Type} (as : List Value) (S : ga_S) (s : ga_M) (K : ga_O → Option α) : Option α := match as with
  | [.ref r0, .int a] => bif Nat.beq r0 72 then (f_X12_writeReport a s).bind fun q => K (.inl (some (.int q.1)), S, q.2) else none
  | _ => none
def c_X11_reportByte {α : Type} (as : List Value) (S : ga_S) (s : ga_M) (K : ga_O → Option α) : Option α := match as with
  | [.ref r0, .int a] => bif Nat.beq r0 0 then Sum.elim (fun x => K (.inl (some (.int x)), S, s)) (fun E => K (.inr E, S, s)) (v_X11_reportByte a s) else none
  | _ => none
def c_X12_reportByte {α : Type} (as : List Value) (S : ga_S) (s : ga_M) (K : ga_O → Option α) : Option α := match as with
  | [.ref r0, .int a] => bif Nat.beq r0 72 then (f_X12_reportByte a s).bind fun q => K (.inl (some (.int q.1)), S, q.2) else none
  | _ => none
def c_X1_restoreLatest {α : Type} (as : List Value) (S : ga_S) (s : ga_M) (K : ga_O → Option α) : Option α := match as with
  | [.ref r0] => bif Nat.beq r0 42 then (f_X1_restoreLatest s).bind fun s1 => K (.inl none, S, s1) else none
  | _ => none
def c_X11_undo {α : Type} (as : List Value) (S : ga_S) (s : ga_M) (K : ga_O → Option α) : Option α := match as with
  | [.ref r0] => bif Nat.beq r0 0 then (f_X11_undo s).bind fun q => Sum.elim (fun x => K (.inl (some (.int x)), S, q.2)) (fun E => K (.inr E, S, q.2)) q.1 else none
  | _ => none
def c_X12_undo {α : Type} (as : List Value) (S : ga_S) (s : ga_M) (K : ga_O → Option α) : Option α := match as with
  | [.ref r0] => bif Nat.beq r0 72 then (f_X12_undo s).bind fun q => K (.inl (some (.int q.1)), S, q.2) else none
  | _ => none
def c_X11_undoDepth {α : Type} (as : List Value) (S : ga_S) (s : ga_M) (K : ga_O → Option α) : Option α := match as with
  | [.ref r0] => bif Nat.beq r0 0 then K (.inl (some (.int (v_X11_undoDepth s))), S, s) else none
  | _ => none
def c_X12_undoDepth {α : Type} (as : List Value) (S : ga_S) (s : ga_M) (K : ga_O → Option α) : Option α := match as with
  | [.ref r0] => bif Nat.beq r0 72 then K (.inl (some (.int (v_X12_undoDepth s).1)), S, (v_X12_undoDepth s).2) else none
  | _ => none
def c_X12_thrown {α : Type} (as : List Value) (S : ga_S) (s : ga_M) (K : ga_O → Option α) : Option α := match as with
  | [.ref r0] => bif Nat.beq r0 72 then K (.inl (some (.int (v_X12_thrown s))), S, s) else none
  | _ => none
def c_X7_becomeSample {α : Type} (as : List Value) (S : ga_S) (s : ga_M) (K : ga_O → Option α) : Option α := match as with
  | [.ref r0] => bif Nat.beq r0 1 then K (.inl none, S, v_X7_becomeSample s) else none
  | _ => none
def c_L_appendText {α : Type} (as : List Value) (S : ga_S) (s : ga_M) (K : ga_O → Option α) : Option α := match as with
  | [.ref r0, .int a, .int b, .int c, .int d, .int e, .ref r1] => bif Nat.beq r0 0 && Nat.beq r1 82 then (f_L_appendText_0_82 a b c d e s).bind fun q => Sum.elim (fun x => K (.inl (some (.int x)), S, q.2)) (fun E => K (.inr E, S, q.2)) q.1 else none
  | _ => none
def c_L_truncateText {α : Type} (as : List Value) (S : ga_S) (s : ga_M) (K : ga_O → Option α) : Option α := match as with
  | [.ref r0, .int a, .ref r1] => bif Nat.beq r0 0 && Nat.beq r1 82 then (f_L_truncateText_0_82 a s).bind fun q => Sum.elim (fun x => K (.inl (some (.int x)), S, q.2)) (fun E => K (.inr E, S, q.2)) q.1 else none
  | _ => none
def c_L_setAbsent {α : Type} (as : List Value) (S : ga_S) (s : ga_M) (K : ga_O → Option α) : Option α := match as with
  | [.ref r0, .int a, .int b, .int c, .ref r1] => bif Nat.beq r0 0 && Nat.beq r1 82 then (f_L_setAbsent_0_82 a b c s).bind fun q => Sum.elim (fun x => K (.inl (some (.int x)), S, q.2)) (fun E => K (.inr E, S, q.2)) q.1 else none
  | _ => none
def c_L_cover {α : Type} (as : List Value) (S : ga_S) (s : ga_M) (K : ga_O → Option α) : Option α := match as with
  | [.ref r0, .int a, .int b, .ref r1] => bif Nat.beq r0 0 && Nat.beq r1 82 then (f_L_cover_0_82 a b s).bind fun q => Sum.elim (fun x => K (.inl (some (.int x)), S, q.2)) (fun E => K (.inr E, S, q.2)) q.1 else none
  | _ => none
def c_L_supervise {α : Type} (as : List Value) (S : ga_S) (s : ga_M) (K : ga_O → Option α) : Option α := match as with
  | [.ref r0, .int a, .int b, .ref r1] => bif Nat.beq r0 0 && Nat.beq r1 82 then (f_L_supervise_0_82 a b s).bind fun q => Sum.elim (fun x => K (.inl (some (.int x)), S, q.2)) (fun E => K (.inr E, S, q.2)) q.1 else none
  | _ => none
def c_L_repair {α : Type} (as : List Value) (S : ga_S) (s : ga_M) (K : ga_O → Option α) : Option α := match as with
  | [.ref r0, .int a, .ref r1] => bif Nat.beq r0 0 && Nat.beq r1 82 then (f_L_repair_0_82 a s).bind fun q => Sum.elim (fun x => K (.inl (some (.int x)), S, q.2)) (fun E => K (.inr E, S, q.2)) q.1 else none
  | _ => none
def c_L_exchange {α : Type} (as : List Value) (S : ga_S) (s : ga_M) (K : ga_O → Option α) : Option α := match as with
  | [.ref r0, .int a, .int b, .ref r1] => bif Nat.beq r0 0 && Nat.beq r1 82 then (f_L_exchange_0_82 a b s).bind fun q => Sum.elim (fun x => K (.inl (some (.int x)), S, q.2)) (fun E => K (.inr E, S, q.2)) q.1 else none
  | _ => none
def c_L_move {α : Type} (as : List Value) (S : ga_S) (s : ga_M) (K : ga_O → Option α) : Option α := match as with
  | [.ref r0, .int a, .int b, .ref r1] => bif Nat.beq r0 0 && Nat.beq r1 82 then (f_L_move_0_82 a b s).bind fun q => Sum.elim (fun x => K (.inl (some (.int x)), S, q.2)) (fun E => K (.inr E, S, q.2)) q.1 else none
  | _ => none
def c_L_setRoom {α : Type} (as : List Value) (S : ga_S) (s : ga_M) (K : ga_O → Option α) : Option α := match as with
  | [.ref r0, .int a, .int b, .ref r1] => bif Nat.beq r0 0 && Nat.beq r1 82 then (f_L_setRoom_0_82 a b s).bind fun q => Sum.elim (fun x => K (.inl (some (.int x)), S, q.2)) (fun E => K (.inr E, S, q.2)) q.1 else none
  | _ => none
def c_L_reopen {α : Type} (as : List Value) (S : ga_S) (s : ga_M) (K : ga_O → Option α) : Option α := match as with
  | [.ref r0, .int a, .ref r1] => bif Nat.beq r0 0 && Nat.beq r1 82 then (f_L_reopen_0_82 a s).bind fun q => Sum.elim (fun x => K (.inl (some (.int x)), S, q.2)) (fun E => K (.inr E, S, q.2)) q.1 else none
  | _ => none
def c_L_whyNotCover {α : Type} (as : List Value) (S : ga_S) (s : ga_M) (K : ga_O → Option α) : Option α := match as with
  | [.ref r0, .int a, .int b, .ref r1] => bif Nat.beq r0 0 && Nat.beq r1 82 then (f_L_whyNotCover_0_82 a b s).bind fun q => Sum.elim (fun x => K (.inl (some (.int x)), S, q.2)) (fun E => K (.inr E, S, q.2)) q.1 else none
  | _ => none
def c_L_whyNotSupervise {α : Type} (as : List Value) (S : ga_S) (s : ga_M) (K : ga_O → Option α) : Option α := match as with
  | [.ref r0, .int a, .int b, .ref r1] => bif Nat.beq r0 0 && Nat.beq r1 82 then (f_L_whyNotSupervise_0_82 a b s).bind fun q => Sum.elim (fun x => K (.inl (some (.int x)), S, q.2)) (fun E => K (.inr E, S, q.2)) q.1 else none
  | _ => none
def c_L_whyNotExchange {α : Type} (as : List Value) (S : ga_S) (s : ga_M) (K : ga_O → Option α) : Option α := match as with
  | [.ref r0, .int a, .int b, .ref r1] => bif Nat.beq r0 0 && Nat.beq r1 82 then (f_L_whyNotExchange_0_82 a b s).bind fun q => Sum.elim (fun x => K (.inl (some (.int x)), S, q.2)) (fun E => K (.inr E, S, q.2)) q.1 else none
  | _ => none
def c_L_whyNotMove {α : Type} (as : List Value) (S : ga_S) (s : ga_M) (K : ga_O → Option α) : Option α := match as with
  | [.ref r0, .int a, .int b, .ref r1] => bif Nat.beq r0 0 && Nat.beq r1 82 then (f_L_whyNotMove_0_82 a b s).bind fun q => Sum.elim (fun x => K (.inl (some (.int x)), S, q.2)) (fun E => K (.inr E, S, q.2)) q.1 else none
  | _ => none
def c_L_whyNotRoom {α : Type} (as : List Value) (S : ga_S) (s : ga_M) (K : ga_O → Option α) : Option α := match as with
  | [.ref r0, .int a, .int b, .ref r1] => bif Nat.beq r0 0 && Nat.beq r1 82 then (f_L_whyNotRoom_0_82 a b s).bind fun q => Sum.elim (fun x => K (.inl (some (.int x)), S, q.2)) (fun E => K (.inr E, S, q.2)) q.1 else none
  | _ => none
def c_L_candidates {α : Type} (as : List Value) (S : ga_S) (s : ga_M) (K : ga_O → Option α) : Option α := match as with
  | [.ref r0, .int a, .ref r1] => bif Nat.beq r0 0 && Nat.beq r1 82 then (f_L_candidates_0_82 a s).bind fun q => Sum.elim (fun x => K (.inl (some (.int x)), S, q.2)) (fun E => K (.inr E, S, q.2)) q.1 else none
  | _ => none
def c_L_chain {α : Type} (as : List Value) (S : ga_S) (s : ga_M) (K : ga_O → Option α) : Option α := match as with
  | [.ref r0, .int a, .ref r1] => bif Nat.beq r0 0 && Nat.beq r1 82 then (f_L_chain_0_82 a s).bind fun q => Sum.elim (fun x => K (.inl (some (.int x)), S, q.2)) (fun E => K (.inr E, S, q.2)) q.1 else none
  | _ => none
def c_L_chainTeacher {α : Type} (as : List Value) (S : ga_S) (s : ga_M) (K : ga_O → Option α) : Option α := match as with
  | [.ref r0, .int a, .int b, .ref r1] => bif Nat.beq r0 0 && Nat.beq r1 82 then (f_L_chainTeacher_0_82 a b s).bind fun q => Sum.elim (fun x => K (.inl (some (.int x)), S, q.2)) (fun E => K (.inr E, S, q.2)) q.1 else none
  | _ => none
def c_L_partners {α : Type} (as : List Value) (S : ga_S) (s : ga_M) (K : ga_O → Option α) : Option α := match as with
  | [.ref r0, .int a, .ref r1] => bif Nat.beq r0 0 && Nat.beq r1 82 then (f_L_partners_0_82 a s).bind fun q => Sum.elim (fun x => K (.inl (some (.int x)), S, q.2)) (fun E => K (.inr E, S, q.2)) q.1 else none
  | _ => none
def c_L_firstPartner {α : Type} (as : List Value) (S : ga_S) (s : ga_M) (K : ga_O → Option α) : Option α := match as with
  | [.ref r0, .int a, .ref r1] => bif Nat.beq r0 0 && Nat.beq r1 82 then (f_L_firstPartner_0_82 a s).bind fun q => Sum.elim (fun x => K (.inl (some (.int x)), S, q.2)) (fun E => K (.inr E, S, q.2)) q.1 else none
  | _ => none
def c_L_slotsFor {α : Type} (as : List Value) (S : ga_S) (s : ga_M) (K : ga_O → Option α) : Option α := match as with
  | [.ref r0, .int a, .ref r1] => bif Nat.beq r0 0 && Nat.beq r1 82 then (f_L_slotsFor_0_82 a s).bind fun q => Sum.elim (fun x => K (.inl (some (.int x)), S, q.2)) (fun E => K (.inr E, S, q.2)) q.1 else none
  | _ => none
def c_L_count {α : Type} (as : List Value) (S : ga_S) (s : ga_M) (K : ga_O → Option α) : Option α := match as with
  | [.ref r0, .int a, .ref r1] => bif Nat.beq r0 0 && Nat.beq r1 82 then (f_L_count_0_82 a s).bind fun q => Sum.elim (fun x => K (.inl (some (.int x)), S, q.2)) (fun E => K (.inr E, S, q.2)) q.1 else none
  | _ => none
def c_L_lesson {α : Type} (as : List Value) (S : ga_S) (s : ga_M) (K : ga_O → Option α) : Option α := match as with
  | [.ref r0, .int a, .int b, .ref r1] => bif Nat.beq r0 0 && Nat.beq r1 82 then (f_L_lesson_0_82 a b s).bind fun q => Sum.elim (fun x => K (.inl (some (.int x)), S, q.2)) (fun E => K (.inr E, S, q.2)) q.1 else none
  | _ => none
def c_L_teacher {α : Type} (as : List Value) (S : ga_S) (s : ga_M) (K : ga_O → Option α) : Option α := match as with
  | [.ref r0, .int a, .int b, .ref r1] => bif Nat.beq r0 0 && Nat.beq r1 82 then (f_L_teacher_0_82 a b s).bind fun q => Sum.elim (fun x => K (.inl (some (.int x)), S, q.2)) (fun E => K (.inr E, S, q.2)) q.1 else none
  | _ => none
def c_L_room {α : Type} (as : List Value) (S : ga_S) (s : ga_M) (K : ga_O → Option α) : Option α := match as with
  | [.ref r0, .int a, .int b, .ref r1] => bif Nat.beq r0 0 && Nat.beq r1 82 then (f_L_room_0_82 a b s).bind fun q => Sum.elim (fun x => K (.inl (some (.int x)), S, q.2)) (fun E => K (.inr E, S, q.2)) q.1 else none
  | _ => none
def c_L_subject {α : Type} (as : List Value) (S : ga_S) (s : ga_M) (K : ga_O → Option α) : Option α := match as with
  | [.ref r0, .int a, .int b, .ref r1] => bif Nat.beq r0 0 && Nat.beq r1 82 then (f_L_subject_0_82 a b s).bind fun q => Sum.elim (fun x => K (.inl (some (.int x)), S, q.2)) (fun E => K (.inr E, S, q.2)) q.1 else none
  | _ => none
def c_L_lessonOfClass {α : Type} (as : List Value) (S : ga_S) (s : ga_M) (K : ga_O → Option α) : Option α := match as with
  | [.ref r0, .int a, .int b, .ref r1] => bif Nat.beq r0 0 && Nat.beq r1 82 then (f_L_lessonOfClass_0_82 a b s).bind fun q => Sum.elim (fun x => K (.inl (some (.int x)), S, q.2)) (fun E => K (.inr E, S, q.2)) q.1 else none
  | _ => none
def c_L_lessonOfTeacher {α : Type} (as : List Value) (S : ga_S) (s : ga_M) (K : ga_O → Option α) : Option α := match as with
  | [.ref r0, .int a, .int b, .ref r1] => bif Nat.beq r0 0 && Nat.beq r1 82 then (f_L_lessonOfTeacher_0_82 a b s).bind fun q => Sum.elim (fun x => K (.inl (some (.int x)), S, q.2)) (fun E => K (.inr E, S, q.2)) q.1 else none
  | _ => none
def c_L_lessonInRoom {α : Type} (as : List Value) (S : ga_S) (s : ga_M) (K : ga_O → Option α) : Option α := match as with
  | [.ref r0, .int a, .int b, .ref r1] => bif Nat.beq r0 0 && Nat.beq r1 82 then (f_L_lessonInRoom_0_82 a b s).bind fun q => Sum.elim (fun x => K (.inl (some (.int x)), S, q.2)) (fun E => K (.inr E, S, q.2)) q.1 else none
  | _ => none
def c_L_freeTeachers {α : Type} (as : List Value) (S : ga_S) (s : ga_M) (K : ga_O → Option α) : Option α := match as with
  | [.ref r0, .int a, .ref r1] => bif Nat.beq r0 0 && Nat.beq r1 82 then (f_L_freeTeachers_0_82 a s).bind fun q => Sum.elim (fun x => K (.inl (some (.int x)), S, q.2)) (fun E => K (.inr E, S, q.2)) q.1 else none
  | _ => none
def c_L_freeRooms {α : Type} (as : List Value) (S : ga_S) (s : ga_M) (K : ga_O → Option α) : Option α := match as with
  | [.ref r0, .int a, .int b, .ref r1] => bif Nat.beq r0 0 && Nat.beq r1 82 then (f_L_freeRooms_0_82 a b s).bind fun q => Sum.elim (fun x => K (.inl (some (.int x)), S, q.2)) (fun E => K (.inr E, S, q.2)) q.1 else none
  | _ => none
def c_L_openLesson {α : Type} (as : List Value) (S : ga_S) (s : ga_M) (K : ga_O → Option α) : Option α := match as with
  | [.ref r0, .int a, .ref r1] => bif Nat.beq r0 0 && Nat.beq r1 82 then (f_L_openLesson_0_82 a s).bind fun q => Sum.elim (fun x => K (.inl (some (.int x)), S, q.2)) (fun E => K (.inr E, S, q.2)) q.1 else none
  | _ => none
def c_L_difference {α : Type} (as : List Value) (S : ga_S) (s : ga_M) (K : ga_O → Option α) : Option α := match as with
  | [.ref r0, .int a, .ref r1] => bif Nat.beq r0 0 && Nat.beq r1 82 then (f_L_difference_0_82 a s).bind fun q => Sum.elim (fun x => K (.inl (some (.int x)), S, q.2)) (fun E => K (.inr E, S, q.2)) q.1 else none
  | _ => none
def c_L_windows {α : Type} (as : List Value) (S : ga_S) (s : ga_M) (K : ga_O → Option α) : Option α := match as with
  | [.ref r0, .int a, .int b, .ref r1] => bif Nat.beq r0 0 && Nat.beq r1 82 then (f_L_windows_0_82 a b s).bind fun q => Sum.elim (fun x => K (.inl (some (.int x)), S, q.2)) (fun E => K (.inr E, S, q.2)) q.1 else none
  | _ => none
def c_L_classWindows {α : Type} (as : List Value) (S : ga_S) (s : ga_M) (K : ga_O → Option α) : Option α := match as with
  | [.ref r0, .int a, .int b, .ref r1] => bif Nat.beq r0 0 && Nat.beq r1 82 then (f_L_classWindows_0_82 a b s).bind fun q => Sum.elim (fun x => K (.inl (some (.int x)), S, q.2)) (fun E => K (.inr E, S, q.2)) q.1 else none
  | _ => none
def c_L_writeReport {α : Type} (as : List Value) (S : ga_S) (s : ga_M) (K : ga_O → Option α) : Option α := match as with
  | [.ref r0, .int a, .ref r1] => bif Nat.beq r0 0 && Nat.beq r1 82 then (f_L_writeReport_0_82 a s).bind fun q => Sum.elim (fun x => K (.inl (some (.int x)), S, q.2)) (fun E => K (.inr E, S, q.2)) q.1 else none
  | _ => none
def c_L_reportByte {α : Type} (as : List Value) (S : ga_S) (s : ga_M) (K : ga_O → Option α) : Option α := match as with
  | [.ref r0, .int a, .ref r1] => bif Nat.beq r0 0 && Nat.beq r1 82 then (f_L_reportByte_0_82 a s).bind fun q => Sum.elim (fun x => K (.inl (some (.int x)), S, q.2)) (fun E => K (.inr E, S, q.2)) q.1 else none
  | _ => none
def c_L_undo {α : Type} (as : List Value) (S : ga_S) (s : ga_M) (K : ga_O → Option α) : Option α := match as with
  | [.ref r0, .ref r1] => bif Nat.beq r0 0 && Nat.beq r1 82 then (f_L_undo_0_82 s).bind fun q => Sum.elim (fun x => K (.inl (some (.int x)), S, q.2)) (fun E => K (.inr E, S, q.2)) q.1 else none
  | _ => none
def gaG : ga_G := fun α mid as S s K => bif Nat.blt mid 165 then (bif Nat.blt mid 83 then (bif Nat.blt mid 42 then (bif Nat.blt mid 21 then (bif Nat.blt mid 11 then (bif Nat.blt mid 6 then (bif Nat.blt mid 3 then (bif Nat.blt mid 2 then (bif Nat.beq mid 1 then c_X6_at as S s K else none) else (bif Nat.beq mid 2 then c_X6_put as S s K else none)) else (bif Nat.blt mid 4 then (bif Nat.beq mid 3 then c_X6_become as S s K else none) else (bif Nat.blt mid 5 then (bif Nat.beq mid 4 then c_J0_length_8abf5 as S s K else none) else (bif Nat.beq mid 5 then c_J0_charAt_5068e as S s K else none)))) else (bif Nat.blt mid 8 then (bif Nat.blt mid 7 then (bif Nat.beq mid 6 then c_X10_append as S s K else none) else (bif Nat.beq mid 7 then c_X12_bring as S s K else none)) else (bif Nat.blt mid 9 then (bif Nat.beq mid 8 then c_X12_no as S s K else none) else (bif Nat.blt mid 10 then (bif Nat.beq mid 9 then c_X12_appendText as S s K else none) else (bif Nat.beq mid 10 then c_X12_in as S s K else none))))) else (bif Nat.blt mid 16 then (bif Nat.blt mid 13 then (bif Nat.blt mid 12 then (bif Nat.beq mid 11 then c_X12_truncateText as S s K else none) else (bif Nat.beq mid 12 then c_X7_becomeEmpty as S s K else none)) else (bif Nat.blt mid 14 then (bif Nat.beq mid 13 then c_X10_afterBlanks as S s K else none) else (bif Nat.blt mid 15 then (bif Nat.beq mid 14 then c_X10_isLetter as S s K else none) else (bif Nat.beq mid 15 then c_X10_isDigit as S s K else none)))) else (bif Nat.blt mid 18 then (bif Nat.blt mid 17 then (bif Nat.beq mid 16 then c_J9_min_7cf53 as S s K else none) else (bif Nat.beq mid 17 then c_X10_afterDigits as S s K else none)) else (bif Nat.blt mid 19 then (bif Nat.beq mid 18 then c_X10_afterLetters as S s K else none) else (bif Nat.blt mid 20 then (bif Nat.beq mid 19 then c_X10_next as S s K else none) else (bif Nat.beq mid 20 then c_X10_begin as S s K else none)))))) else (bif Nat.blt mid 31 then (bif Nat.blt mid 26 then (bif Nat.blt mid 23 then (bif Nat.blt mid 22 then (bif Nat.beq mid 21 then c_X10_isWord as S s K else none) else (bif Nat.beq mid 22 then c_X10_fail as S s K else none)) else (bif Nat.blt mid 24 then (bif Nat.beq mid 23 then c_X8_fail as S s K else none) else (bif Nat.blt mid 25 then (bif Nat.beq mid 24 then c_X8_takeWord as S s K else none) else (bif Nat.beq mid 25 then c_X8_checkNumber as S s K else none)))) else (bif Nat.blt mid 28 then (bif Nat.blt mid 27 then (bif Nat.beq mid 26 then c_X8_takeNumber as S s K else none) else (bif Nat.beq mid 27 then c_X8_takeSemicolon as S s K else none)) else (bif Nat.blt mid 29 then (bif Nat.beq mid 28 then c_X8_readGrid as S s K else none) else (bif Nat.blt mid 30 then (bif Nat.beq mid 29 then c_X7_addSubject as S s K else none) else (bif Nat.beq mid 30 then c_X8_readSubjects as S s K else none))))) else (bif Nat.blt mid 36 then (bif Nat.blt mid 33 then (bif Nat.blt mid 32 then (bif Nat.beq mid 31 then c_X7_addTeacher as S s K else none) else (bif Nat.beq mid 32 then c_X11_hasBit as S s K else none)) else (bif Nat.blt mid 34 then (bif Nat.beq mid 33 then c_X8_readTeacher as S s K else none) else (bif Nat.blt mid 35 then (bif Nat.beq mid 34 then c_X8_readTeachers as S s K else none) else (bif Nat.beq mid 35 then c_X7_addRoom as S s K else none)))) else (bif Nat.blt mid 39 then (bif Nat.blt mid 37 then (bif Nat.beq mid 36 then c_X8_readRooms as S s K else none) else (bif Nat.blt mid 38 then (bif Nat.beq mid 37 then c_X8_readClasses as S s K else none) else (bif Nat.beq mid 38 then c_X7_slots as S s K else none))) else (bif Nat.blt mid 40 then (bif Nat.beq mid 39 then c_X7_isTakenAtFirst as S s K else none) else (bif Nat.blt mid 41 then (bif Nat.beq mid 40 then c_X8_checkUntaken as S s K else none) else (bif Nat.beq mid 41 then c_X7_hasTeacher as S s K else none))))))) else (bif Nat.blt mid 62 then (bif Nat.blt mid 52 then (bif Nat.blt mid 47 then (bif Nat.blt mid 44 then (bif Nat.blt mid 43 then (bif Nat.beq mid 42 then c_X7_isQualified as S s K else none) else (bif Nat.beq mid 43 then c_X7_addLesson as S s K else none)) else (bif Nat.blt mid 45 then (bif Nat.beq mid 44 then c_X8_readLesson as S s K else none) else (bif Nat.blt mid 46 then (bif Nat.beq mid 45 then c_X8_readLessons as S s K else none) else (bif Nat.beq mid 46 then c_X8_read as S s K else none)))) else (bif Nat.blt mid 49 then (bif Nat.blt mid 48 then (bif Nat.beq mid 47 then c_X7_become as S s K else none) else (bif Nat.beq mid 48 then c_X7_dayOf as S s K else none)) else (bif Nat.blt mid 50 then (bif Nat.beq mid 49 then c_X3_isAway as S s K else none) else (bif Nat.blt mid 51 then (bif Nat.beq mid 50 then c_X3_isAwayAt as S s K else none) else (bif Nat.beq mid 51 then c_X3_returnToFirst as S s K else none))))) else (bif Nat.blt mid 57 then (bif Nat.blt mid 54 then (bif Nat.blt mid 53 then (bif Nat.beq mid 52 then c_X3_begin as S s K else none) else (bif Nat.beq mid 53 then c_X1_forget as S s K else none)) else (bif Nat.blt mid 55 then (bif Nat.beq mid 54 then c_X11_parseSchool as S s K else none) else (bif Nat.blt mid 56 then (bif Nat.beq mid 55 then c_X12_byteAt as S s K else none) else (bif Nat.beq mid 56 then c_X12_isLetterAt as S s K else none)))) else (bif Nat.blt mid 59 then (bif Nat.blt mid 58 then (bif Nat.beq mid 57 then c_X12_isDigitAt as S s K else none) else (bif Nat.beq mid 58 then c_X12_next as S s K else none)) else (bif Nat.blt mid 60 then (bif Nat.beq mid 59 then c_X12_begin as S s K else none) else (bif Nat.blt mid 61 then (bif Nat.beq mid 60 then c_X12_isWord as S s K else none) else (bif Nat.beq mid 61 then c_X12_goOn as S s K else none)))))) else (bif Nat.blt mid 72 then (bif Nat.blt mid 67 then (bif Nat.blt mid 64 then (bif Nat.blt mid 63 then (bif Nat.beq mid 62 then c_X12_wrong as S s K else none) else (bif Nat.beq mid 63 then c_X12_must as S s K else none)) else (bif Nat.blt mid 65 then (bif Nat.beq mid 64 then c_X12_digits as S s K else none) else (bif Nat.blt mid 66 then (bif Nat.beq mid 65 then c_X12_see as S s K else none) else (bif Nat.beq mid 66 then c_X12_number as S s K else none)))) else (bif Nat.blt mid 69 then (bif Nat.blt mid 68 then (bif Nat.beq mid 67 then c_X12_opensThing as S s K else none) else (bif Nat.beq mid 68 then c_X12_readKinds as S s K else none)) else (bif Nat.blt mid 70 then (bif Nat.beq mid 69 then c_X12_has as S s K else none) else (bif Nat.blt mid 71 then (bif Nat.beq mid 70 then c_X12_readTeachers as S s K else none) else (bif Nat.beq mid 71 then c_X12_isThere as S s K else none))))) else (bif Nat.blt mid 77 then (bif Nat.blt mid 74 then (bif Nat.blt mid 73 then (bif Nat.beq mid 72 then c_X12_readLesson as S s K else none) else (bif Nat.beq mid 73 then c_X12_firstly as S s K else none)) else (bif Nat.blt mid 75 then (bif Nat.beq mid 74 then c_X12_beginAnew as S s K else none) else (bif Nat.blt mid 76 then (bif Nat.beq mid 75 then c_X12_parseSchool as S s K else none) else (bif Nat.beq mid 76 then c_X1_baseOf as S s K else none)))) else (bif Nat.blt mid 80 then (bif Nat.blt mid 78 then (bif Nat.beq mid 77 then c_X1_mark as S s K else none) else (bif Nat.blt mid 79 then (bif Nat.beq mid 78 then c_X1_keepMarked as S s K else none) else (bif Nat.beq mid 79 then c_X1_restoreMarked as S s K else none))) else (bif Nat.blt mid 81 then (bif Nat.beq mid 80 then c_X9_wordOf as S s K else none) else (bif Nat.blt mid 82 then (bif Nat.beq mid 81 then c_X9_findStep as S s K else none) else (bif Nat.beq mid 82 then c_X9_numbersOf as S s K else none)))))))) else (bif Nat.blt mid 124 then (bif Nat.blt mid 103 then (bif Nat.blt mid 93 then (bif Nat.blt mid 88 then (bif Nat.blt mid 85 then (bif Nat.blt mid 84 then (bif Nat.beq mid 83 then c_X9_readStep as S s K else none) else (bif Nat.beq mid 84 then c_X7_hasDay as S s K else none)) else (bif Nat.blt mid 86 then (bif Nat.beq mid 85 then c_X3_makeOpen as S s K else none) else (bif Nat.blt mid 87 then (bif Nat.beq mid 86 then c_X2_letBeAbsent as S s K else none) else (bif Nat.beq mid 87 then c_X7_hasLesson as S s K else none)))) else (bif Nat.blt mid 90 then (bif Nat.blt mid 89 then (bif Nat.beq mid 88 then c_X3_isOpen as S s K else none) else (bif Nat.beq mid 89 then c_X2_openAgain as S s K else none)) else (bif Nat.blt mid 91 then (bif Nat.beq mid 90 then c_X0_presentAt as S s K else none) else (bif Nat.blt mid 92 then (bif Nat.beq mid 91 then c_X3_isTaught as S s K else none) else (bif Nat.beq mid 92 then c_X7_qualifiedFor as S s K else none))))) else (bif Nat.blt mid 98 then (bif Nat.blt mid 95 then (bif Nat.blt mid 94 then (bif Nat.beq mid 93 then c_X0_busyAt as S s K else none) else (bif Nat.beq mid 94 then c_X3_loadOf as S s K else none)) else (bif Nat.blt mid 96 then (bif Nat.beq mid 95 then c_X0_leastLoaded as S s K else none) else (bif Nat.blt mid 97 then (bif Nat.beq mid 96 then c_X0_successorsOf as S s K else none) else (bif Nat.beq mid 97 then c_X0_thoseBefore as S s K else none)))) else (bif Nat.blt mid 100 then (bif Nat.blt mid 99 then (bif Nat.beq mid 98 then c_X0_lowest as S s K else none) else (bif Nat.beq mid 99 then c_X0_choose as S s K else none)) else (bif Nat.blt mid 101 then (bif Nat.beq mid 100 then c_X0_find as S s K else none) else (bif Nat.blt mid 102 then (bif Nat.beq mid 101 then c_X3_lessonAt as S s K else none) else (bif Nat.beq mid 102 then c_X3_letTeach as S s K else none)))))) else (bif Nat.blt mid 113 then (bif Nat.blt mid 108 then (bif Nat.blt mid 105 then (bif Nat.blt mid 104 then (bif Nat.beq mid 103 then c_X2_repairByChain as S s K else none) else (bif Nat.beq mid 104 then c_X7_hasRoom as S s K else none)) else (bif Nat.blt mid 106 then (bif Nat.beq mid 105 then c_X4_againstRoom as S s K else none) else (bif Nat.blt mid 107 then (bif Nat.beq mid 106 then c_X2_moveToRoom as S s K else none) else (bif Nat.beq mid 107 then c_X7_hasSlot as S s K else none)))) else (bif Nat.blt mid 110 then (bif Nat.blt mid 109 then (bif Nat.beq mid 108 then c_X4_isBusy as S s K else none) else (bif Nat.beq mid 109 then c_X4_isTeacherAwayAt as S s K else none)) else (bif Nat.blt mid 111 then (bif Nat.beq mid 110 then c_X4_againstMove as S s K else none) else (bif Nat.blt mid 112 then (bif Nat.beq mid 111 then c_X2_moveToSlot as S s K else none) else (bif Nat.beq mid 112 then c_X4_isHeldByThird as S s K else none))))) else (bif Nat.blt mid 118 then (bif Nat.blt mid 115 then (bif Nat.blt mid 114 then (bif Nat.beq mid 113 then c_X4_againstExchange as S s K else none) else (bif Nat.beq mid 114 then c_X2_swapSlots as S s K else none)) else (bif Nat.blt mid 116 then (bif Nat.beq mid 115 then c_X3_isSupervised as S s K else none) else (bif Nat.blt mid 117 then (bif Nat.beq mid 116 then c_X3_dutiesOn as S s K else none) else (bif Nat.beq mid 117 then c_X4_againstSupervision as S s K else none)))) else (bif Nat.blt mid 121 then (bif Nat.blt mid 119 then (bif Nat.beq mid 118 then c_X3_letWatch as S s K else none) else (bif Nat.blt mid 120 then (bif Nat.beq mid 119 then c_X2_letSupervise as S s K else none) else (bif Nat.beq mid 120 then c_X4_againstCover as S s K else none))) else (bif Nat.blt mid 122 then (bif Nat.beq mid 121 then c_X2_letCover as S s K else none) else (bif Nat.blt mid 123 then (bif Nat.beq mid 122 then c_X2_repairOpenLessons as S s K else none) else (bif Nat.beq mid 123 then c_X2_perform as S s K else none))))))) else (bif Nat.blt mid 144 then (bif Nat.blt mid 134 then (bif Nat.blt mid 129 then (bif Nat.blt mid 126 then (bif Nat.blt mid 125 then (bif Nat.beq mid 124 then c_X11_runScript as S s K else none) else (bif Nat.beq mid 125 then c_X12_copyRow as S s K else none)) else (bif Nat.blt mid 127 then (bif Nat.beq mid 126 then c_X12_push as S s K else none) else (bif Nat.blt mid 128 then (bif Nat.beq mid 127 then c_X12_stepHere as S s K else none) else (bif Nat.beq mid 128 then c_X12_figure as S s K else none)))) else (bif Nat.blt mid 131 then (bif Nat.blt mid 130 then (bif Nat.beq mid 129 then c_X12_isLesson as S s K else none) else (bif Nat.beq mid 130 then c_X12_isOpen as S s K else none)) else (bif Nat.blt mid 132 then (bif Nat.beq mid 131 then c_X12_isRoom as S s K else none) else (bif Nat.blt mid 133 then (bif Nat.beq mid 132 then c_X12_lessonWith as S s K else none) else (bif Nat.beq mid 133 then c_X12_reasonForRoom as S s K else none))))) else (bif Nat.blt mid 139 then (bif Nat.blt mid 136 then (bif Nat.blt mid 135 then (bif Nat.beq mid 134 then c_X12_slots as S s K else none) else (bif Nat.beq mid 135 then c_X12_isSlot as S s K else none)) else (bif Nat.blt mid 137 then (bif Nat.beq mid 136 then c_X12_ofClass as S s K else none) else (bif Nat.blt mid 138 then (bif Nat.beq mid 137 then c_X12_ofTeacher as S s K else none) else (bif Nat.beq mid 138 then c_X12_dayOf as S s K else none)))) else (bif Nat.blt mid 141 then (bif Nat.blt mid 140 then (bif Nat.beq mid 139 then c_X12_isAbsent as S s K else none) else (bif Nat.beq mid 140 then c_X12_reasonToMove as S s K else none)) else (bif Nat.blt mid 142 then (bif Nat.beq mid 141 then c_X12_isElsewhere as S s K else none) else (bif Nat.blt mid 143 then (bif Nat.beq mid 142 then c_X12_reasonToExchange as S s K else none) else (bif Nat.beq mid 143 then c_X12_isQualified as S s K else none)))))) else (bif Nat.blt mid 154 then (bif Nat.blt mid 149 then (bif Nat.blt mid 146 then (bif Nat.blt mid 145 then (bif Nat.beq mid 144 then c_X12_isOnWay as S s K else none) else (bif Nat.beq mid 145 then c_X12_isTaught as S s K else none)) else (bif Nat.blt mid 147 then (bif Nat.beq mid 146 then c_X12_taughtBy as S s K else none) else (bif Nat.blt mid 148 then (bif Nat.beq mid 147 then c_X12_firstBy as S s K else none) else (bif Nat.beq mid 148 then c_X12_loadOf as S s K else none)))) else (bif Nat.blt mid 151 then (bif Nat.blt mid 150 then (bif Nat.beq mid 149 then c_X12_goes3 as S s K else none) else (bif Nat.beq mid 150 then c_X12_goes2 as S s K else none)) else (bif Nat.blt mid 152 then (bif Nat.beq mid 151 then c_X12_goes1 as S s K else none) else (bif Nat.blt mid 153 then (bif Nat.beq mid 152 then c_X12_goes0 as S s K else none) else (bif Nat.beq mid 153 then c_X12_findChain as S s K else none))))) else (bif Nat.blt mid 159 then (bif Nat.blt mid 156 then (bif Nat.blt mid 155 then (bif Nat.beq mid 154 then c_X12_isTeacher as S s K else none) else (bif Nat.beq mid 155 then c_X12_dutiesOf as S s K else none)) else (bif Nat.blt mid 157 then (bif Nat.beq mid 156 then c_X12_reasonToWatch as S s K else none) else (bif Nat.blt mid 158 then (bif Nat.beq mid 157 then c_X12_reasonToCover as S s K else none) else (bif Nat.beq mid 158 then c_X12_isDay as S s K else none)))) else (bif Nat.blt mid 162 then (bif Nat.blt mid 160 then (bif Nat.beq mid 159 then c_X12_canStep as S s K else none) else (bif Nat.blt mid 161 then (bif Nat.beq mid 160 then c_X12_opens as S s K else none) else (bif Nat.beq mid 161 then c_X12_swaps as S s K else none))) else (bif Nat.blt mid 163 then (bif Nat.beq mid 162 then c_X12_chains as S s K else none) else (bif Nat.blt mid 164 then (bif Nat.beq mid 163 then c_X12_repairsAll as S s K else none) else (bif Nat.beq mid 164 then c_X12_gives as S s K else none))))))))) else (bif Nat.blt mid 400 then (bif Nat.blt mid 206 then (bif Nat.blt mid 185 then (bif Nat.blt mid 175 then (bif Nat.blt mid 170 then (bif Nat.blt mid 167 then (bif Nat.blt mid 166 then (bif Nat.beq mid 165 then c_X12_absents as S s K else none) else (bif Nat.beq mid 166 then c_X12_doStep as S s K else none)) else (bif Nat.blt mid 168 then (bif Nat.beq mid 167 then c_X12_goesThrough as S s K else none) else (bif Nat.blt mid 169 then (bif Nat.beq mid 168 then c_X12_runScript as S s K else none) else (bif Nat.beq mid 169 then c_X11_errorCode as S s K else none)))) else (bif Nat.blt mid 172 then (bif Nat.blt mid 171 then (bif Nat.beq mid 170 then c_X12_errorCode as S s K else none) else (bif Nat.beq mid 171 then c_X11_errorPosition as S s K else none)) else (bif Nat.blt mid 173 then (bif Nat.beq mid 172 then c_X12_errorPosition as S s K else none) else (bif Nat.blt mid 174 then (bif Nat.beq mid 173 then c_X12_fails as S s K else none) else (bif Nat.beq mid 174 then c_X12_remember as S s K else none))))) else (bif Nat.blt mid 180 then (bif Nat.blt mid 177 then (bif Nat.blt mid 176 then (bif Nat.beq mid 175 then c_X12_setAbsent as S s K else none) else (bif Nat.beq mid 176 then c_X12_cover as S s K else none)) else (bif Nat.blt mid 178 then (bif Nat.beq mid 177 then c_X3_dutiesOf as S s K else none) else (bif Nat.blt mid 179 then (bif Nat.beq mid 178 then c_X12_supervise as S s K else none) else (bif Nat.beq mid 179 then c_X12_repair as S s K else none)))) else (bif Nat.blt mid 182 then (bif Nat.blt mid 181 then (bif Nat.beq mid 180 then c_X11_repairAll as S s K else none) else (bif Nat.beq mid 181 then c_X12_repairAll as S s K else none)) else (bif Nat.blt mid 183 then (bif Nat.beq mid 182 then c_X12_exchange as S s K else none) else (bif Nat.blt mid 184 then (bif Nat.beq mid 183 then c_X12_move as S s K else none) else (bif Nat.beq mid 184 then c_X12_setRoom as S s K else none)))))) else (bif Nat.blt mid 195 then (bif Nat.blt mid 190 then (bif Nat.blt mid 187 then (bif Nat.blt mid 186 then (bif Nat.beq mid 185 then c_X12_reopen as S s K else none) else (bif Nat.beq mid 186 then c_X3_differs as S s K else none)) else (bif Nat.blt mid 188 then (bif Nat.beq mid 187 then c_X3_differingLessons as S s K else none) else (bif Nat.blt mid 189 then (bif Nat.beq mid 188 then c_X11_reset as S s K else none) else (bif Nat.beq mid 189 then c_X12_differs as S s K else none)))) else (bif Nat.blt mid 192 then (bif Nat.blt mid 191 then (bif Nat.beq mid 190 then c_X12_differences as S s K else none) else (bif Nat.beq mid 191 then c_X12_reset as S s K else none)) else (bif Nat.blt mid 193 then (bif Nat.beq mid 192 then c_X12_whyNotCover as S s K else none) else (bif Nat.blt mid 194 then (bif Nat.beq mid 193 then c_X12_whyNotSupervise as S s K else none) else (bif Nat.beq mid 194 then c_X12_whyNotExchange as S s K else none))))) else (bif Nat.blt mid 200 then (bif Nat.blt mid 197 then (bif Nat.blt mid 196 then (bif Nat.beq mid 195 then c_X12_whyNotMove as S s K else none) else (bif Nat.beq mid 196 then c_X12_whyNotRoom as S s K else none)) else (bif Nat.blt mid 198 then (bif Nat.beq mid 197 then c_X12_candidates as S s K else none) else (bif Nat.blt mid 199 then (bif Nat.beq mid 198 then c_X12_chain as S s K else none) else (bif Nat.beq mid 199 then c_X12_chainTeacher as S s K else none)))) else (bif Nat.blt mid 203 then (bif Nat.blt mid 201 then (bif Nat.beq mid 200 then c_X12_partnerOf as S s K else none) else (bif Nat.blt mid 202 then (bif Nat.beq mid 201 then c_X12_partners as S s K else none) else (bif Nat.beq mid 202 then c_X12_firstPartner as S s K else none))) else (bif Nat.blt mid 204 then (bif Nat.beq mid 203 then c_X12_slotsFor as S s K else none) else (bif Nat.blt mid 205 then (bif Nat.beq mid 204 then c_X7_lessonsWith as S s K else none) else (bif Nat.beq mid 205 then c_X3_supervisedLessons as S s K else none))))))) else (bif Nat.blt mid 226 then (bif Nat.blt mid 216 then (bif Nat.blt mid 211 then (bif Nat.blt mid 208 then (bif Nat.blt mid 207 then (bif Nat.beq mid 206 then c_X3_openLessons as S s K else none) else (bif Nat.beq mid 207 then c_X12_watchedMany as S s K else none)) else (bif Nat.blt mid 209 then (bif Nat.beq mid 208 then c_X12_openMany as S s K else none) else (bif Nat.blt mid 210 then (bif Nat.beq mid 209 then c_X12_count as S s K else none) else (bif Nat.beq mid 210 then c_X12_lesson as S s K else none)))) else (bif Nat.blt mid 213 then (bif Nat.blt mid 212 then (bif Nat.beq mid 211 then c_X3_taughtBy as S s K else none) else (bif Nat.beq mid 212 then c_X12_teacher as S s K else none)) else (bif Nat.blt mid 214 then (bif Nat.beq mid 213 then c_X12_room as S s K else none) else (bif Nat.blt mid 215 then (bif Nat.beq mid 214 then c_X12_subject as S s K else none) else (bif Nat.beq mid 215 then c_X12_isClass as S s K else none))))) else (bif Nat.blt mid 221 then (bif Nat.blt mid 218 then (bif Nat.blt mid 217 then (bif Nat.beq mid 216 then c_X12_lessonOfClass as S s K else none) else (bif Nat.beq mid 217 then c_X12_lessonOfTeacher as S s K else none)) else (bif Nat.blt mid 219 then (bif Nat.beq mid 218 then c_X12_lessonInRoom as S s K else none) else (bif Nat.blt mid 220 then (bif Nat.beq mid 219 then c_X12_freeTeachers as S s K else none) else (bif Nat.beq mid 220 then c_X12_freeRooms as S s K else none)))) else (bif Nat.blt mid 223 then (bif Nat.blt mid 222 then (bif Nat.beq mid 221 then c_X12_lessonAt as S s K else none) else (bif Nat.beq mid 222 then c_X12_openLesson as S s K else none)) else (bif Nat.blt mid 224 then (bif Nat.beq mid 223 then c_X12_difference as S s K else none) else (bif Nat.blt mid 225 then (bif Nat.beq mid 224 then c_X3_windowsOf as S s K else none) else (bif Nat.beq mid 225 then c_X12_gapsIn as S s K else none)))))) else (bif Nat.blt mid 236 then (bif Nat.blt mid 231 then (bif Nat.blt mid 228 then (bif Nat.blt mid 227 then (bif Nat.beq mid 226 then c_X12_windows as S s K else none) else (bif Nat.beq mid 227 then c_X12_classWindows as S s K else none)) else (bif Nat.blt mid 229 then (bif Nat.beq mid 228 then c_J9_max_7cf53 as S s K else none) else (bif Nat.blt mid 230 then (bif Nat.beq mid 229 then c_X11_spread as S s K else none) else (bif Nat.beq mid 230 then c_X12_spread as S s K else none)))) else (bif Nat.blt mid 233 then (bif Nat.blt mid 232 then (bif Nat.beq mid 231 then c_X3_taughtLessons as S s K else none) else (bif Nat.beq mid 232 then c_X11_taughtShare as S s K else none)) else (bif Nat.blt mid 234 then (bif Nat.beq mid 233 then c_X12_taughtShare as S s K else none) else (bif Nat.blt mid 235 then (bif Nat.beq mid 234 then c_X5_append as S s K else none) else (bif Nat.beq mid 235 then c_X5_writeLesson as S s K else none))))) else (bif Nat.blt mid 241 then (bif Nat.blt mid 238 then (bif Nat.blt mid 237 then (bif Nat.beq mid 236 then c_X5_write as S s K else none) else (bif Nat.beq mid 237 then c_X12_print as S s K else none)) else (bif Nat.blt mid 239 then (bif Nat.beq mid 238 then c_X12_printLesson as S s K else none) else (bif Nat.blt mid 240 then (bif Nat.beq mid 239 then c_X12_writeReport as S s K else none) else (bif Nat.beq mid 240 then c_X12_reportByte as S s K else none)))) else (bif Nat.blt mid 244 then (bif Nat.blt mid 242 then (bif Nat.beq mid 241 then c_X1_restoreLatest as S s K else none) else (bif Nat.blt mid 243 then (bif Nat.beq mid 242 then c_X12_undo as S s K else none) else (bif Nat.beq mid 243 then c_X11_undoDepth as S s K else none))) else (bif Nat.blt mid 245 then (bif Nat.beq mid 244 then c_X12_undoDepth as S s K else none) else (bif Nat.blt mid 246 then (bif Nat.beq mid 245 then c_X12_thrown as S s K else none) else (bif Nat.beq mid 246 then c_X7_becomeSample as S s K else none)))))))) else (bif Nat.blt mid 441 then (bif Nat.blt mid 420 then (bif Nat.blt mid 410 then (bif Nat.blt mid 405 then (bif Nat.blt mid 402 then (bif Nat.blt mid 401 then (bif Nat.beq mid 400 then c_X11_appendText as S s K else none) else (bif Nat.beq mid 401 then c_X11_truncateText as S s K else none)) else (bif Nat.blt mid 403 then (bif Nat.beq mid 402 then c_X11_requireTeacher as S s K else none) else (bif Nat.blt mid 404 then (bif Nat.beq mid 403 then c_X11_requireDay as S s K else none) else (bif Nat.beq mid 404 then c_X11_setAbsent as S s K else none)))) else (bif Nat.blt mid 407 then (bif Nat.blt mid 406 then (bif Nat.beq mid 405 then c_X11_requireLesson as S s K else none) else (bif Nat.beq mid 406 then c_X11_keepUnlessRefused as S s K else none)) else (bif Nat.blt mid 408 then (bif Nat.beq mid 407 then c_X11_cover as S s K else none) else (bif Nat.blt mid 409 then (bif Nat.beq mid 408 then c_X11_supervise as S s K else none) else (bif Nat.beq mid 409 then c_X11_repair as S s K else none))))) else (bif Nat.blt mid 415 then (bif Nat.blt mid 412 then (bif Nat.blt mid 411 then (bif Nat.beq mid 410 then c_X11_exchange as S s K else none) else (bif Nat.beq mid 411 then c_X11_requireSlot as S s K else none)) else (bif Nat.blt mid 413 then (bif Nat.beq mid 412 then c_X11_move as S s K else none) else (bif Nat.blt mid 414 then (bif Nat.beq mid 413 then c_X11_requireRoom as S s K else none) else (bif Nat.beq mid 414 then c_X11_setRoom as S s K else none)))) else (bif Nat.blt mid 417 then (bif Nat.blt mid 416 then (bif Nat.beq mid 415 then c_X11_reopen as S s K else none) else (bif Nat.beq mid 416 then c_X11_whyNotCover as S s K else none)) else (bif Nat.blt mid 418 then (bif Nat.beq mid 417 then c_X11_whyNotSupervise as S s K else none) else (bif Nat.blt mid 419 then (bif Nat.beq mid 418 then c_X11_whyNotExchange as S s K else none) else (bif Nat.beq mid 419 then c_X11_whyNotMove as S s K else none)))))) else (bif Nat.blt mid 430 then (bif Nat.blt mid 425 then (bif Nat.blt mid 422 then (bif Nat.blt mid 421 then (bif Nat.beq mid 420 then c_X11_whyNotRoom as S s K else none) else (bif Nat.beq mid 421 then c_X11_candidates as S s K else none)) else (bif Nat.blt mid 423 then (bif Nat.beq mid 422 then c_X11_chain as S s K else none) else (bif Nat.blt mid 424 then (bif Nat.beq mid 423 then c_X11_chainTeacher as S s K else none) else (bif Nat.beq mid 424 then c_X11_partners as S s K else none)))) else (bif Nat.blt mid 427 then (bif Nat.blt mid 426 then (bif Nat.beq mid 425 then c_X11_firstPartner as S s K else none) else (bif Nat.beq mid 426 then c_X11_slotsFor as S s K else none)) else (bif Nat.blt mid 428 then (bif Nat.beq mid 427 then c_X11_count as S s K else none) else (bif Nat.blt mid 429 then (bif Nat.beq mid 428 then c_X11_lesson as S s K else none) else (bif Nat.beq mid 429 then c_X11_teacher as S s K else none))))) else (bif Nat.blt mid 435 then (bif Nat.blt mid 432 then (bif Nat.blt mid 431 then (bif Nat.beq mid 430 then c_X11_room as S s K else none) else (bif Nat.beq mid 431 then c_X11_subject as S s K else none)) else (bif Nat.blt mid 433 then (bif Nat.beq mid 432 then c_X11_requireClass as S s K else none) else (bif Nat.blt mid 434 then (bif Nat.beq mid 433 then c_X11_lessonOfClass as S s K else none) else (bif Nat.beq mid 434 then c_X11_lessonOfTeacher as S s K else none)))) else (bif Nat.blt mid 438 then (bif Nat.blt mid 436 then (bif Nat.beq mid 435 then c_X11_lessonInRoom as S s K else none) else (bif Nat.blt mid 437 then (bif Nat.beq mid 436 then c_X11_freeTeachers as S s K else none) else (bif Nat.beq mid 437 then c_X11_freeRooms as S s K else none))) else (bif Nat.blt mid 439 then (bif Nat.beq mid 438 then c_X11_openLesson as S s K else none) else (bif Nat.blt mid 440 then (bif Nat.beq mid 439 then c_X11_difference as S s K else none) else (bif Nat.beq mid 440 then c_X11_windows as S s K else none))))))) else (bif Nat.blt mid 462 then (bif Nat.blt mid 451 then (bif Nat.blt mid 446 then (bif Nat.blt mid 443 then (bif Nat.blt mid 442 then (bif Nat.beq mid 441 then c_X11_classWindows as S s K else none) else (bif Nat.beq mid 442 then c_X11_writeReport as S s K else none)) else (bif Nat.blt mid 444 then (bif Nat.beq mid 443 then c_X11_reportByte as S s K else none) else (bif Nat.blt mid 445 then (bif Nat.beq mid 444 then c_X11_undo as S s K else none) else (bif Nat.beq mid 445 then c_L_appendText as S s K else none)))) else (bif Nat.blt mid 448 then (bif Nat.blt mid 447 then (bif Nat.beq mid 446 then c_L_truncateText as S s K else none) else (bif Nat.beq mid 447 then c_L_setAbsent as S s K else none)) else (bif Nat.blt mid 449 then (bif Nat.beq mid 448 then c_L_cover as S s K else none) else (bif Nat.blt mid 450 then (bif Nat.beq mid 449 then c_L_supervise as S s K else none) else (bif Nat.beq mid 450 then c_L_repair as S s K else none))))) else (bif Nat.blt mid 456 then (bif Nat.blt mid 453 then (bif Nat.blt mid 452 then (bif Nat.beq mid 451 then c_L_exchange as S s K else none) else (bif Nat.beq mid 452 then c_L_move as S s K else none)) else (bif Nat.blt mid 454 then (bif Nat.beq mid 453 then c_L_setRoom as S s K else none) else (bif Nat.blt mid 455 then (bif Nat.beq mid 454 then c_L_reopen as S s K else none) else (bif Nat.beq mid 455 then c_L_whyNotCover as S s K else none)))) else (bif Nat.blt mid 459 then (bif Nat.blt mid 457 then (bif Nat.beq mid 456 then c_L_whyNotSupervise as S s K else none) else (bif Nat.blt mid 458 then (bif Nat.beq mid 457 then c_L_whyNotExchange as S s K else none) else (bif Nat.beq mid 458 then c_L_whyNotMove as S s K else none))) else (bif Nat.blt mid 460 then (bif Nat.beq mid 459 then c_L_whyNotRoom as S s K else none) else (bif Nat.blt mid 461 then (bif Nat.beq mid 460 then c_L_candidates as S s K else none) else (bif Nat.beq mid 461 then c_L_chain as S s K else none)))))) else (bif Nat.blt mid 472 then (bif Nat.blt mid 467 then (bif Nat.blt mid 464 then (bif Nat.blt mid 463 then (bif Nat.beq mid 462 then c_L_chainTeacher as S s K else none) else (bif Nat.beq mid 463 then c_L_partners as S s K else none)) else (bif Nat.blt mid 465 then (bif Nat.beq mid 464 then c_L_firstPartner as S s K else none) else (bif Nat.blt mid 466 then (bif Nat.beq mid 465 then c_L_slotsFor as S s K else none) else (bif Nat.beq mid 466 then c_L_count as S s K else none)))) else (bif Nat.blt mid 469 then (bif Nat.blt mid 468 then (bif Nat.beq mid 467 then c_L_lesson as S s K else none) else (bif Nat.beq mid 468 then c_L_teacher as S s K else none)) else (bif Nat.blt mid 470 then (bif Nat.beq mid 469 then c_L_room as S s K else none) else (bif Nat.blt mid 471 then (bif Nat.beq mid 470 then c_L_subject as S s K else none) else (bif Nat.beq mid 471 then c_L_lessonOfClass as S s K else none))))) else (bif Nat.blt mid 477 then (bif Nat.blt mid 474 then (bif Nat.blt mid 473 then (bif Nat.beq mid 472 then c_L_lessonOfTeacher as S s K else none) else (bif Nat.beq mid 473 then c_L_lessonInRoom as S s K else none)) else (bif Nat.blt mid 475 then (bif Nat.beq mid 474 then c_L_freeTeachers as S s K else none) else (bif Nat.blt mid 476 then (bif Nat.beq mid 475 then c_L_freeRooms as S s K else none) else (bif Nat.beq mid 476 then c_L_openLesson as S s K else none)))) else (bif Nat.blt mid 480 then (bif Nat.blt mid 478 then (bif Nat.beq mid 477 then c_L_difference as S s K else none) else (bif Nat.blt mid 479 then (bif Nat.beq mid 478 then c_L_windows as S s K else none) else (bif Nat.beq mid 479 then c_L_classWindows as S s K else none))) else (bif Nat.blt mid 481 then (bif Nat.beq mid 480 then c_L_writeReport as S s K else none) else (bif Nat.blt mid 482 then (bif Nat.beq mid 481 then c_L_reportByte as S s K else none) else (bif Nat.beq mid 482 then c_L_undo as S s K else none)))))))))
def gaGP : ga_G := fun α mid as S s K => bif Nat.blt mid 141 then (bif Nat.blt mid 91 then (bif Nat.blt mid 49 then (bif Nat.blt mid 18 then (bif Nat.blt mid 13 then (bif Nat.blt mid 5 then (bif Nat.blt mid 4 then (bif Nat.beq mid 1 then c_X6_at as S s K else none) else (bif Nat.beq mid 4 then c_J0_length_8abf5 as S s K else none)) else (bif Nat.blt mid 10 then (bif Nat.beq mid 5 then c_J0_charAt_5068e as S s K else none) else (bif Nat.beq mid 10 then c_X12_in as S s K else none))) else (bif Nat.blt mid 15 then (bif Nat.blt mid 14 then (bif Nat.beq mid 13 then c_X10_afterBlanks as S s K else none) else (bif Nat.beq mid 14 then c_X10_isLetter as S s K else none)) else (bif Nat.blt mid 16 then (bif Nat.beq mid 15 then c_X10_isDigit as S s K else none) else (bif Nat.beq mid 16 then c_J9_min_7cf53 as S s K else none)))) else (bif Nat.blt mid 39 then (bif Nat.blt mid 32 then (bif Nat.blt mid 21 then (bif Nat.beq mid 18 then c_X10_afterLetters as S s K else none) else (bif Nat.beq mid 21 then c_X10_isWord as S s K else none)) else (bif Nat.blt mid 38 then (bif Nat.beq mid 32 then c_X11_hasBit as S s K else none) else (bif Nat.beq mid 38 then c_X7_slots as S s K else none))) else (bif Nat.blt mid 42 then (bif Nat.blt mid 41 then (bif Nat.beq mid 39 then c_X7_isTakenAtFirst as S s K else none) else (bif Nat.beq mid 41 then c_X7_hasTeacher as S s K else none)) else (bif Nat.blt mid 48 then (bif Nat.beq mid 42 then c_X7_isQualified as S s K else none) else (bif Nat.beq mid 48 then c_X7_dayOf as S s K else none))))) else (bif Nat.blt mid 71 then (bif Nat.blt mid 57 then (bif Nat.blt mid 55 then (bif Nat.blt mid 50 then (bif Nat.beq mid 49 then c_X3_isAway as S s K else none) else (bif Nat.beq mid 50 then c_X3_isAwayAt as S s K else none)) else (bif Nat.blt mid 56 then (bif Nat.beq mid 55 then c_X12_byteAt as S s K else none) else (bif Nat.beq mid 56 then c_X12_isLetterAt as S s K else none))) else (bif Nat.blt mid 64 then (bif Nat.blt mid 60 then (bif Nat.beq mid 57 then c_X12_isDigitAt as S s K else none) else (bif Nat.beq mid 60 then c_X12_isWord as S s K else none)) else (bif Nat.blt mid 69 then (bif Nat.beq mid 64 then c_X12_digits as S s K else none) else (bif Nat.beq mid 69 then c_X12_has as S s K else none)))) else (bif Nat.blt mid 82 then (bif Nat.blt mid 80 then (bif Nat.blt mid 76 then (bif Nat.beq mid 71 then c_X12_isThere as S s K else none) else (bif Nat.beq mid 76 then c_X1_baseOf as S s K else none)) else (bif Nat.blt mid 81 then (bif Nat.beq mid 80 then c_X9_wordOf as S s K else none) else (bif Nat.beq mid 81 then c_X9_findStep as S s K else none))) else (bif Nat.blt mid 87 then (bif Nat.blt mid 84 then (bif Nat.beq mid 82 then c_X9_numbersOf as S s K else none) else (bif Nat.beq mid 84 then c_X7_hasDay as S s K else none)) else (bif Nat.blt mid 88 then (bif Nat.beq mid 87 then c_X7_hasLesson as S s K else none) else (bif Nat.blt mid 90 then (bif Nat.beq mid 88 then c_X3_isOpen as S s K else none) else (bif Nat.beq mid 90 then c_X0_presentAt as S s K else none))))))) else (bif Nat.blt mid 115 then (bif Nat.blt mid 104 then (bif Nat.blt mid 96 then (bif Nat.blt mid 94 then (bif Nat.blt mid 92 then (bif Nat.beq mid 91 then c_X3_isTaught as S s K else none) else (bif Nat.beq mid 92 then c_X7_qualifiedFor as S s K else none)) else (bif Nat.blt mid 95 then (bif Nat.beq mid 94 then c_X3_loadOf as S s K else none) else (bif Nat.beq mid 95 then c_X0_leastLoaded as S s K else none))) else (bif Nat.blt mid 98 then (bif Nat.blt mid 97 then (bif Nat.beq mid 96 then c_X0_successorsOf as S s K else none) else (bif Nat.beq mid 97 then c_X0_thoseBefore as S s K else none)) else (bif Nat.blt mid 101 then (bif Nat.beq mid 98 then c_X0_lowest as S s K else none) else (bif Nat.beq mid 101 then c_X3_lessonAt as S s K else none)))) else (bif Nat.blt mid 109 then (bif Nat.blt mid 107 then (bif Nat.blt mid 105 then (bif Nat.beq mid 104 then c_X7_hasRoom as S s K else none) else (bif Nat.beq mid 105 then c_X4_againstRoom as S s K else none)) else (bif Nat.blt mid 108 then (bif Nat.beq mid 107 then c_X7_hasSlot as S s K else none) else (bif Nat.beq mid 108 then c_X4_isBusy as S s K else none))) else (bif Nat.blt mid 112 then (bif Nat.blt mid 110 then (bif Nat.beq mid 109 then c_X4_isTeacherAwayAt as S s K else none) else (bif Nat.beq mid 110 then c_X4_againstMove as S s K else none)) else (bif Nat.blt mid 113 then (bif Nat.beq mid 112 then c_X4_isHeldByThird as S s K else none) else (bif Nat.beq mid 113 then c_X4_againstExchange as S s K else none))))) else (bif Nat.blt mid 132 then (bif Nat.blt mid 127 then (bif Nat.blt mid 117 then (bif Nat.blt mid 116 then (bif Nat.beq mid 115 then c_X3_isSupervised as S s K else none) else (bif Nat.beq mid 116 then c_X3_dutiesOn as S s K else none)) else (bif Nat.blt mid 120 then (bif Nat.beq mid 117 then c_X4_againstSupervision as S s K else none) else (bif Nat.beq mid 120 then c_X4_againstCover as S s K else none))) else (bif Nat.blt mid 130 then (bif Nat.blt mid 129 then (bif Nat.beq mid 127 then c_X12_stepHere as S s K else none) else (bif Nat.beq mid 129 then c_X12_isLesson as S s K else none)) else (bif Nat.blt mid 131 then (bif Nat.beq mid 130 then c_X12_isOpen as S s K else none) else (bif Nat.beq mid 131 then c_X12_isRoom as S s K else none)))) else (bif Nat.blt mid 136 then (bif Nat.blt mid 134 then (bif Nat.blt mid 133 then (bif Nat.beq mid 132 then c_X12_lessonWith as S s K else none) else (bif Nat.beq mid 133 then c_X12_reasonForRoom as S s K else none)) else (bif Nat.blt mid 135 then (bif Nat.beq mid 134 then c_X12_slots as S s K else none) else (bif Nat.beq mid 135 then c_X12_isSlot as S s K else none))) else (bif Nat.blt mid 138 then (bif Nat.blt mid 137 then (bif Nat.beq mid 136 then c_X12_ofClass as S s K else none) else (bif Nat.beq mid 137 then c_X12_ofTeacher as S s K else none)) else (bif Nat.blt mid 139 then (bif Nat.beq mid 138 then c_X12_dayOf as S s K else none) else (bif Nat.blt mid 140 then (bif Nat.beq mid 139 then c_X12_isAbsent as S s K else none) else (bif Nat.beq mid 140 then c_X12_reasonToMove as S s K else none)))))))) else (bif Nat.blt mid 231 then (bif Nat.blt mid 186 then (bif Nat.blt mid 154 then (bif Nat.blt mid 145 then (bif Nat.blt mid 143 then (bif Nat.blt mid 142 then (bif Nat.beq mid 141 then c_X12_isElsewhere as S s K else none) else (bif Nat.beq mid 142 then c_X12_reasonToExchange as S s K else none)) else (bif Nat.blt mid 144 then (bif Nat.beq mid 143 then c_X12_isQualified as S s K else none) else (bif Nat.beq mid 144 then c_X12_isOnWay as S s K else none))) else (bif Nat.blt mid 147 then (bif Nat.blt mid 146 then (bif Nat.beq mid 145 then c_X12_isTaught as S s K else none) else (bif Nat.beq mid 146 then c_X12_taughtBy as S s K else none)) else (bif Nat.blt mid 148 then (bif Nat.beq mid 147 then c_X12_firstBy as S s K else none) else (bif Nat.beq mid 148 then c_X12_loadOf as S s K else none)))) else (bif Nat.blt mid 158 then (bif Nat.blt mid 156 then (bif Nat.blt mid 155 then (bif Nat.beq mid 154 then c_X12_isTeacher as S s K else none) else (bif Nat.beq mid 155 then c_X12_dutiesOf as S s K else none)) else (bif Nat.blt mid 157 then (bif Nat.beq mid 156 then c_X12_reasonToWatch as S s K else none) else (bif Nat.beq mid 157 then c_X12_reasonToCover as S s K else none))) else (bif Nat.blt mid 171 then (bif Nat.blt mid 169 then (bif Nat.beq mid 158 then c_X12_isDay as S s K else none) else (bif Nat.beq mid 169 then c_X11_errorCode as S s K else none)) else (bif Nat.blt mid 177 then (bif Nat.beq mid 171 then c_X11_errorPosition as S s K else none) else (bif Nat.beq mid 177 then c_X3_dutiesOf as S s K else none))))) else (bif Nat.blt mid 207 then (bif Nat.blt mid 200 then (bif Nat.blt mid 189 then (bif Nat.blt mid 187 then (bif Nat.beq mid 186 then c_X3_differs as S s K else none) else (bif Nat.beq mid 187 then c_X3_differingLessons as S s K else none)) else (bif Nat.blt mid 190 then (bif Nat.beq mid 189 then c_X12_differs as S s K else none) else (bif Nat.beq mid 190 then c_X12_differences as S s K else none))) else (bif Nat.blt mid 205 then (bif Nat.blt mid 204 then (bif Nat.beq mid 200 then c_X12_partnerOf as S s K else none) else (bif Nat.beq mid 204 then c_X7_lessonsWith as S s K else none)) else (bif Nat.blt mid 206 then (bif Nat.beq mid 205 then c_X3_supervisedLessons as S s K else none) else (bif Nat.beq mid 206 then c_X3_openLessons as S s K else none)))) else (bif Nat.blt mid 221 then (bif Nat.blt mid 211 then (bif Nat.blt mid 208 then (bif Nat.beq mid 207 then c_X12_watchedMany as S s K else none) else (bif Nat.beq mid 208 then c_X12_openMany as S s K else none)) else (bif Nat.blt mid 215 then (bif Nat.beq mid 211 then c_X3_taughtBy as S s K else none) else (bif Nat.beq mid 215 then c_X12_isClass as S s K else none))) else (bif Nat.blt mid 225 then (bif Nat.blt mid 224 then (bif Nat.beq mid 221 then c_X12_lessonAt as S s K else none) else (bif Nat.beq mid 224 then c_X3_windowsOf as S s K else none)) else (bif Nat.blt mid 228 then (bif Nat.beq mid 225 then c_X12_gapsIn as S s K else none) else (bif Nat.blt mid 229 then (bif Nat.beq mid 228 then c_J9_max_7cf53 as S s K else none) else (bif Nat.beq mid 229 then c_X11_spread as S s K else none))))))) else (bif Nat.blt mid 426 then (bif Nat.blt mid 413 then (bif Nat.blt mid 402 then (bif Nat.blt mid 243 then (bif Nat.blt mid 232 then (bif Nat.beq mid 231 then c_X3_taughtLessons as S s K else none) else (bif Nat.beq mid 232 then c_X11_taughtShare as S s K else none)) else (bif Nat.blt mid 245 then (bif Nat.beq mid 243 then c_X11_undoDepth as S s K else none) else (bif Nat.beq mid 245 then c_X12_thrown as S s K else none))) else (bif Nat.blt mid 405 then (bif Nat.blt mid 403 then (bif Nat.beq mid 402 then c_X11_requireTeacher as S s K else none) else (bif Nat.beq mid 403 then c_X11_requireDay as S s K else none)) else (bif Nat.blt mid 411 then (bif Nat.beq mid 405 then c_X11_requireLesson as S s K else none) else (bif Nat.beq mid 411 then c_X11_requireSlot as S s K else none)))) else (bif Nat.blt mid 419 then (bif Nat.blt mid 417 then (bif Nat.blt mid 416 then (bif Nat.beq mid 413 then c_X11_requireRoom as S s K else none) else (bif Nat.beq mid 416 then c_X11_whyNotCover as S s K else none)) else (bif Nat.blt mid 418 then (bif Nat.beq mid 417 then c_X11_whyNotSupervise as S s K else none) else (bif Nat.beq mid 418 then c_X11_whyNotExchange as S s K else none))) else (bif Nat.blt mid 421 then (bif Nat.blt mid 420 then (bif Nat.beq mid 419 then c_X11_whyNotMove as S s K else none) else (bif Nat.beq mid 420 then c_X11_whyNotRoom as S s K else none)) else (bif Nat.blt mid 424 then (bif Nat.beq mid 421 then c_X11_candidates as S s K else none) else (bif Nat.blt mid 425 then (bif Nat.beq mid 424 then c_X11_partners as S s K else none) else (bif Nat.beq mid 425 then c_X11_firstPartner as S s K else none)))))) else (bif Nat.blt mid 434 then (bif Nat.blt mid 430 then (bif Nat.blt mid 428 then (bif Nat.blt mid 427 then (bif Nat.beq mid 426 then c_X11_slotsFor as S s K else none) else (bif Nat.beq mid 427 then c_X11_count as S s K else none)) else (bif Nat.blt mid 429 then (bif Nat.beq mid 428 then c_X11_lesson as S s K else none) else (bif Nat.beq mid 429 then c_X11_teacher as S s K else none))) else (bif Nat.blt mid 432 then (bif Nat.blt mid 431 then (bif Nat.beq mid 430 then c_X11_room as S s K else none) else (bif Nat.beq mid 431 then c_X11_subject as S s K else none)) else (bif Nat.blt mid 433 then (bif Nat.beq mid 432 then c_X11_requireClass as S s K else none) else (bif Nat.beq mid 433 then c_X11_lessonOfClass as S s K else none)))) else (bif Nat.blt mid 438 then (bif Nat.blt mid 436 then (bif Nat.blt mid 435 then (bif Nat.beq mid 434 then c_X11_lessonOfTeacher as S s K else none) else (bif Nat.beq mid 435 then c_X11_lessonInRoom as S s K else none)) else (bif Nat.blt mid 437 then (bif Nat.beq mid 436 then c_X11_freeTeachers as S s K else none) else (bif Nat.beq mid 437 then c_X11_freeRooms as S s K else none))) else (bif Nat.blt mid 440 then (bif Nat.blt mid 439 then (bif Nat.beq mid 438 then c_X11_openLesson as S s K else none) else (bif Nat.beq mid 439 then c_X11_difference as S s K else none)) else (bif Nat.blt mid 441 then (bif Nat.beq mid 440 then c_X11_windows as S s K else none) else (bif Nat.blt mid 443 then (bif Nat.beq mid 441 then c_X11_classWindows as S s K else none) else (bif Nat.beq mid 443 then c_X11_reportByte as S s K else none))))))))
end
