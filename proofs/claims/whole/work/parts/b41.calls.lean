section GE0
/-- a call by number: the rest comes behind it -/
def ge_N (P : ga_O → Prop) (F : ∀ α : Type, (ga_O → Option α) → Option α) : Prop := ∀ (α : Type) (k : ga_O → Option α) (o : α), F α k = some o → ∃ o1, P o1 ∧ F ga_O some = some o1 ∧ k o1 = some o
variable {P : ga_O → Prop}
theorem ge_none : ge_N P (fun _ _ => none) := fun _ _ _ h => nomatch h
theorem ge_K {o1 : ga_O} (h : P o1) : ge_N P (fun _ K => K o1) := fun _ _ _ hk => ⟨o1, h, rfl, hk⟩
theorem ge_cond {b : Bool} {F1 F2 : ∀ α : Type, (ga_O → Option α) → Option α} (h1 : ge_N P F1) (h2 : ge_N P F2) : ge_N P (fun α K => bif b then F1 α K else F2 α K) := by cases b; exact h2; exact h1
theorem ge_if {c : Prop} {_ : Decidable c} {F1 F2 : ∀ α : Type, (ga_O → Option α) → Option α} (h1 : ge_N P F1) (h2 : ge_N P F2) : ge_N P (fun α K => if c then F1 α K else F2 α K) := by split; exact h1; exact h2
theorem ge_bind {β : Type} {x : Option β} {F : β → ∀ α : Type, (ga_O → Option α) → Option α} (h : ∀ y, ge_N P (F y)) : ge_N P (fun α K => x.bind fun y => F y α K) := by
  cases x with
  | none => exact ge_none
  | some y => exact h y
theorem ge_elimO {β : Type} {x : Option β} {F1 : ∀ α : Type, (ga_O → Option α) → Option α} {F2 : β → ∀ α : Type, (ga_O → Option α) → Option α} (h1 : ge_N P F1) (h2 : ∀ y, ge_N P (F2 y)) : ge_N P (fun α K => Option.elim x (F1 α K) fun y => F2 y α K) := by
  cases x with
  | none => exact h1
  | some y => exact h2 y
theorem ge_elimS {β γ : Type} {x : β ⊕ γ} {F1 : β → ∀ α : Type, (ga_O → Option α) → Option α} {F2 : γ → ∀ α : Type, (ga_O → Option α) → Option α} (h1 : ∀ y, ge_N P (F1 y)) (h2 : ∀ y, ge_N P (F2 y)) : ge_N P (fun α K => Sum.elim (fun y => F1 y α K) (fun y => F2 y α K) x) := by
  cases x with
  | inl y => exact h1 y
  | inr y => exact h2 y
theorem ge_mono {Q : ga_O → Prop} {F : ∀ α : Type, (ga_O → Option α) → Option α} (h : ge_N P F) (hPQ : ∀ o, P o → Q o) : ge_N Q F := fun α k o hk => by
  obtain ⟨o1, h1, h2⟩ := h α k o hk
  exact ⟨o1, hPQ o1 h1, h2⟩
theorem ge_at {F : ∀ α : Type, (ga_O → Option α) → Option α} (h : ge_N P F) {o : ga_O} (ho : F ga_O some = some o) : P o := by
  obtain ⟨o1, h1, h2, h3⟩ := h _ _ _ ho
  rw [h2] at ho
  exact Option.some.inj ho ▸ h1
theorem ge_X10_append (as : List Value) (S : ga_S) (s : ga_M) : ge_N (fun o => o.2.1 = S) (fun α K => c_X10_append as S s K) := by
  unfold c_X10_append
  split
  · exact ge_cond (ge_bind (fun _ => ge_K rfl)) (ge_none)
  · exact ge_none
theorem ge_X11_appendText (as : List Value) (S : ga_S) (s : ga_M) : ge_N (fun o => o.2.1 = S) (fun α K => c_X11_appendText as S s K) := by
  unfold c_X11_appendText
  split
  · exact ge_cond (ge_bind (fun q => ge_elimS (x := q.1) (fun _ => ge_K rfl) (fun _ => ge_K rfl))) (ge_none)
  · exact ge_none
theorem ge_X12_bring (as : List Value) (S : ga_S) (s : ga_M) : ge_N (fun o => o.2.1 = S) (fun α K => c_X12_bring as S s K) := by
  unfold c_X12_bring
  split
  · exact ge_cond (ge_bind (fun _ => ge_K rfl)) (ge_none)
  · exact ge_none
theorem ge_X12_no (as : List Value) (S : ga_S) (s : ga_M) : ge_N (fun o => o.2.1 = S) (fun α K => c_X12_no as S s K) := by
  unfold c_X12_no
  split
  · exact ge_cond (ge_K rfl) (ge_none)
  · exact ge_none
theorem ge_X12_appendText (as : List Value) (S : ga_S) (s : ga_M) : ge_N (fun o => o.2.1 = S) (fun α K => c_X12_appendText as S s K) := by
  unfold c_X12_appendText
  split
  · exact ge_cond (ge_bind (fun _ => ge_K rfl)) (ge_none)
  · exact ge_none
theorem ge_X11_truncateText (as : List Value) (S : ga_S) (s : ga_M) : ge_N (fun o => o.2.1 = S) (fun α K => c_X11_truncateText as S s K) := by
  unfold c_X11_truncateText
  split
  · exact ge_cond (ge_bind (fun q => ge_elimS (x := q.1) (fun _ => ge_K rfl) (fun _ => ge_K rfl))) (ge_none)
  · exact ge_none
theorem ge_X12_in (as : List Value) (S : ga_S) (s : ga_M) : ge_N (fun o => o.2.1 = S ∧ o.2.2 = s) (fun α K => c_X12_in as S s K) := by
  unfold c_X12_in
  split
  · exact ge_K ⟨rfl, rfl⟩
  · exact ge_none
theorem ge_X12_truncateText (as : List Value) (S : ga_S) (s : ga_M) : ge_N (fun o => o.2.1 = S) (fun α K => c_X12_truncateText as S s K) := by
  unfold c_X12_truncateText
  split
  · exact ge_cond (ge_K rfl) (ge_none)
  · exact ge_none
theorem ge_X7_becomeEmpty (as : List Value) (S : ga_S) (s : ga_M) : ge_N (fun o => o.2.1 = S) (fun α K => c_X7_becomeEmpty as S s K) := by
  unfold c_X7_becomeEmpty
  split
  · exact ge_cond (ge_K rfl) (ge_cond (ge_K rfl) (ge_none))
  · exact ge_none
theorem ge_X10_afterBlanks (as : List Value) (S : ga_S) (s : ga_M) : ge_N (fun o => o.2.1 = S ∧ o.2.2 = s) (fun α K => c_X10_afterBlanks as S s K) := by
  unfold c_X10_afterBlanks
  split
  · exact ge_cond (ge_bind (fun _ => ge_K ⟨rfl, rfl⟩)) (ge_none)
  · exact ge_none
theorem ge_X10_isLetter (as : List Value) (S : ga_S) (s : ga_M) : ge_N (fun o => o.2.1 = S ∧ o.2.2 = s) (fun α K => c_X10_isLetter as S s K) := by
  unfold c_X10_isLetter
  split
  · exact ge_K ⟨rfl, rfl⟩
  · exact ge_none
theorem ge_X10_isDigit (as : List Value) (S : ga_S) (s : ga_M) : ge_N (fun o => o.2.1 = S ∧ o.2.2 = s) (fun α K => c_X10_isDigit as S s K) := by
  unfold c_X10_isDigit
  split
  · exact ge_K ⟨rfl, rfl⟩
  · exact ge_none
theorem ge_J9_min_7cf53 (as : List Value) (S : ga_S) (s : ga_M) : ge_N (fun o => o.2.1 = S ∧ o.2.2 = s) (fun α K => c_J9_min_7cf53 as S s K) := by
  unfold c_J9_min_7cf53
  split
  · exact ge_K ⟨rfl, rfl⟩
  · exact ge_none
theorem ge_X10_afterDigits (as : List Value) (S : ga_S) (s : ga_M) : ge_N (fun o => o.2.1 = S) (fun α K => c_X10_afterDigits as S s K) := by
  unfold c_X10_afterDigits
  split
  · exact ge_cond (ge_bind (fun _ => ge_K rfl)) (ge_none)
  · exact ge_none
theorem ge_X10_afterLetters (as : List Value) (S : ga_S) (s : ga_M) : ge_N (fun o => o.2.1 = S ∧ o.2.2 = s) (fun α K => c_X10_afterLetters as S s K) := by
  unfold c_X10_afterLetters
  split
  · exact ge_cond (ge_bind (fun _ => ge_K ⟨rfl, rfl⟩)) (ge_none)
  · exact ge_none
theorem ge_X10_next (as : List Value) (S : ga_S) (s : ga_M) : ge_N (fun o => o.2.1 = S) (fun α K => c_X10_next as S s K) := by
  unfold c_X10_next
  split
  · exact ge_cond (ge_bind (fun _ => ge_K rfl)) (ge_none)
  · exact ge_none
theorem ge_X10_begin (as : List Value) (S : ga_S) (s : ga_M) : ge_N (fun o => o.2.1 = S) (fun α K => c_X10_begin as S s K) := by
  unfold c_X10_begin
  split
  · exact ge_cond (ge_bind (fun _ => ge_K rfl)) (ge_none)
  · exact ge_none
theorem ge_X10_isWord (as : List Value) (S : ga_S) (s : ga_M) : ge_N (fun o => o.2.1 = S ∧ o.2.2 = s) (fun α K => c_X10_isWord as S s K) := by
  unfold c_X10_isWord
  split
  · exact ge_cond (ge_bind (fun _ => ge_K ⟨rfl, rfl⟩)) (ge_none)
  · exact ge_none
theorem ge_X10_fail (as : List Value) (S : ga_S) (s : ga_M) : ge_N (fun o => o.2.1 = S) (fun α K => c_X10_fail as S s K) := by
  unfold c_X10_fail
  split
  · exact ge_cond (ge_K rfl) (ge_none)
  · exact ge_none
theorem ge_X8_fail (as : List Value) (S : ga_S) (s : ga_M) : ge_N (fun o => o.2.1 = S) (fun α K => c_X8_fail as S s K) := by
  unfold c_X8_fail
  split
  · exact ge_cond (ge_K rfl) (ge_none)
  · exact ge_none
theorem ge_X8_takeWord (as : List Value) (S : ga_S) (s : ga_M) : ge_N (fun o => o.2.1 = S) (fun α K => c_X8_takeWord as S s K) := by
  unfold c_X8_takeWord
  split
  · exact ge_cond (ge_bind (fun _ => ge_K rfl)) (ge_none)
  · exact ge_none
theorem ge_X8_checkNumber (as : List Value) (S : ga_S) (s : ga_M) : ge_N (fun o => o.2.1 = S) (fun α K => c_X8_checkNumber as S s K) := by
  unfold c_X8_checkNumber
  split
  · exact ge_cond (ge_K rfl) (ge_none)
  · exact ge_none
theorem ge_X8_takeNumber (as : List Value) (S : ga_S) (s : ga_M) : ge_N (fun o => o.2.1 = S) (fun α K => c_X8_takeNumber as S s K) := by
  unfold c_X8_takeNumber
  split
  · exact ge_cond (ge_bind (fun _ => ge_K rfl)) (ge_none)
  · exact ge_none
theorem ge_X8_takeSemicolon (as : List Value) (S : ga_S) (s : ga_M) : ge_N (fun o => o.2.1 = S) (fun α K => c_X8_takeSemicolon as S s K) := by
  unfold c_X8_takeSemicolon
  split
  · exact ge_cond (ge_bind (fun _ => ge_K rfl)) (ge_none)
  · exact ge_none
theorem ge_X8_readGrid (as : List Value) (S : ga_S) (s : ga_M) : ge_N (fun o => o.2.1 = S) (fun α K => c_X8_readGrid as S s K) := by
  unfold c_X8_readGrid
  split
  · exact ge_cond (ge_bind (fun _ => ge_K rfl)) (ge_none)
  · exact ge_none
theorem ge_X7_addSubject (as : List Value) (S : ga_S) (s : ga_M) : ge_N (fun o => o.2.1 = S) (fun α K => c_X7_addSubject as S s K) := by
  unfold c_X7_addSubject
  split
  · exact ge_cond (ge_K rfl) (ge_cond (ge_K rfl) (ge_none))
  · exact ge_none
theorem ge_X8_readSubjects (as : List Value) (S : ga_S) (s : ga_M) : ge_N (fun o => o.2.1 = S) (fun α K => c_X8_readSubjects as S s K) := by
  unfold c_X8_readSubjects
  split
  · exact ge_cond (ge_bind (fun _ => ge_K rfl)) (ge_none)
  · exact ge_none
theorem ge_X7_addTeacher (as : List Value) (S : ga_S) (s : ga_M) : ge_N (fun o => o.2.1 = S) (fun α K => c_X7_addTeacher as S s K) := by
  unfold c_X7_addTeacher
  split
  · exact ge_cond (ge_K rfl) (ge_cond (ge_K rfl) (ge_none))
  · exact ge_none
theorem ge_X11_hasBit (as : List Value) (S : ga_S) (s : ga_M) : ge_N (fun o => o.2.1 = S ∧ o.2.2 = s) (fun α K => c_X11_hasBit as S s K) := by
  unfold c_X11_hasBit
  split
  · exact ge_K ⟨rfl, rfl⟩
  · exact ge_none
theorem ge_X8_readTeacher (as : List Value) (S : ga_S) (s : ga_M) : ge_N (fun o => o.2.1 = S) (fun α K => c_X8_readTeacher as S s K) := by
  unfold c_X8_readTeacher
  split
  · exact ge_cond (ge_bind (fun _ => ge_K rfl)) (ge_none)
  · exact ge_none
theorem ge_X8_readTeachers (as : List Value) (S : ga_S) (s : ga_M) : ge_N (fun o => o.2.1 = S) (fun α K => c_X8_readTeachers as S s K) := by
  unfold c_X8_readTeachers
  split
  · exact ge_cond (ge_bind (fun _ => ge_K rfl)) (ge_none)
  · exact ge_none
theorem ge_X7_addRoom (as : List Value) (S : ga_S) (s : ga_M) : ge_N (fun o => o.2.1 = S) (fun α K => c_X7_addRoom as S s K) := by
  unfold c_X7_addRoom
  split
  · exact ge_cond (ge_K rfl) (ge_cond (ge_K rfl) (ge_none))
  · exact ge_none
theorem ge_X8_readRooms (as : List Value) (S : ga_S) (s : ga_M) : ge_N (fun o => o.2.1 = S) (fun α K => c_X8_readRooms as S s K) := by
  unfold c_X8_readRooms
  split
  · exact ge_cond (ge_bind (fun _ => ge_K rfl)) (ge_none)
  · exact ge_none
theorem ge_X8_readClasses (as : List Value) (S : ga_S) (s : ga_M) : ge_N (fun o => o.2.1 = S) (fun α K => c_X8_readClasses as S s K) := by
  unfold c_X8_readClasses
  split
  · exact ge_cond (ge_bind (fun _ => ge_K rfl)) (ge_none)
  · exact ge_none
theorem ge_X7_slots (as : List Value) (S : ga_S) (s : ga_M) : ge_N (fun o => o.2.1 = S ∧ o.2.2 = s) (fun α K => c_X7_slots as S s K) := by
  unfold c_X7_slots
  split
  · exact ge_cond (ge_K ⟨rfl, rfl⟩) (ge_cond (ge_K ⟨rfl, rfl⟩) (ge_none))
  · exact ge_none
theorem ge_X7_isTakenAtFirst (as : List Value) (S : ga_S) (s : ga_M) : ge_N (fun o => o.2.1 = S ∧ o.2.2 = s) (fun α K => c_X7_isTakenAtFirst as S s K) := by
  unfold c_X7_isTakenAtFirst
  split
  · exact ge_cond (ge_bind (fun _ => ge_K ⟨rfl, rfl⟩)) (ge_cond (ge_bind (fun _ => ge_K ⟨rfl, rfl⟩)) (ge_cond (ge_bind (fun _ => ge_K ⟨rfl, rfl⟩)) (ge_none)))
  · exact ge_none
theorem ge_X8_checkUntaken (as : List Value) (S : ga_S) (s : ga_M) : ge_N (fun o => o.2.1 = S) (fun α K => c_X8_checkUntaken as S s K) := by
  unfold c_X8_checkUntaken
  split
  · exact ge_cond (ge_bind (fun _ => ge_K rfl)) (ge_cond (ge_bind (fun _ => ge_K rfl)) (ge_cond (ge_bind (fun _ => ge_K rfl)) (ge_none)))
  · exact ge_none
theorem ge_X7_hasTeacher (as : List Value) (S : ga_S) (s : ga_M) : ge_N (fun o => o.2.1 = S ∧ o.2.2 = s) (fun α K => c_X7_hasTeacher as S s K) := by
  unfold c_X7_hasTeacher
  split
  · exact ge_cond (ge_K ⟨rfl, rfl⟩) (ge_cond (ge_K ⟨rfl, rfl⟩) (ge_none))
  · exact ge_none
theorem ge_X7_isQualified (as : List Value) (S : ga_S) (s : ga_M) : ge_N (fun o => o.2.1 = S ∧ o.2.2 = s) (fun α K => c_X7_isQualified as S s K) := by
  unfold c_X7_isQualified
  split
  · exact ge_cond (ge_K ⟨rfl, rfl⟩) (ge_cond (ge_K ⟨rfl, rfl⟩) (ge_none))
  · exact ge_none
theorem ge_X7_addLesson (as : List Value) (S : ga_S) (s : ga_M) : ge_N (fun o => o.2.1 = S) (fun α K => c_X7_addLesson as S s K) := by
  unfold c_X7_addLesson
  split
  · exact ge_cond (ge_K rfl) (ge_cond (ge_K rfl) (ge_none))
  · exact ge_none
theorem ge_X8_readLesson (as : List Value) (S : ga_S) (s : ga_M) : ge_N (fun o => o.2.1 = S) (fun α K => c_X8_readLesson as S s K) := by
  unfold c_X8_readLesson
  split
  · exact ge_cond (ge_bind (fun _ => ge_K rfl)) (ge_none)
  · exact ge_none
theorem ge_X8_readLessons (as : List Value) (S : ga_S) (s : ga_M) : ge_N (fun o => o.2.1 = S) (fun α K => c_X8_readLessons as S s K) := by
  unfold c_X8_readLessons
  split
  · exact ge_cond (ge_bind (fun _ => ge_K rfl)) (ge_none)
  · exact ge_none
theorem ge_X8_read (as : List Value) (S : ga_S) (s : ga_M) : ge_N (fun o => o.2.1 = S) (fun α K => c_X8_read as S s K) := by
  unfold c_X8_read
  split
  · exact ge_cond (ge_bind (fun _ => ge_K rfl)) (ge_none)
  · exact ge_none
theorem ge_X7_become (as : List Value) (S : ga_S) (s : ga_M) : ge_N (fun o => o.2.1 = S) (fun α K => c_X7_become as S s K) := by
  unfold c_X7_become
  split
  · exact ge_cond (ge_K rfl) (ge_none)
  · exact ge_none
theorem ge_X7_dayOf (as : List Value) (S : ga_S) (s : ga_M) : ge_N (fun o => o.2.1 = S ∧ o.2.2 = s) (fun α K => c_X7_dayOf as S s K) := by
  unfold c_X7_dayOf
  split
  · exact ge_cond (ge_bind (fun _ => ge_K ⟨rfl, rfl⟩)) (ge_none)
  · exact ge_none
theorem ge_X3_isAway (as : List Value) (S : ga_S) (s : ga_M) : ge_N (fun o => o.2.1 = S ∧ o.2.2 = s) (fun α K => c_X3_isAway as S s K) := by
  unfold c_X3_isAway
  split
  · exact ge_cond (ge_K ⟨rfl, rfl⟩) (ge_none)
  · exact ge_none
theorem ge_X3_isAwayAt (as : List Value) (S : ga_S) (s : ga_M) : ge_N (fun o => o.2.1 = S ∧ o.2.2 = s) (fun α K => c_X3_isAwayAt as S s K) := by
  unfold c_X3_isAwayAt
  split
  · exact ge_cond (ge_bind (fun _ => ge_K ⟨rfl, rfl⟩)) (ge_none)
  · exact ge_none
theorem ge_X3_returnToFirst (as : List Value) (S : ga_S) (s : ga_M) : ge_N (fun o => o.2.1 = S) (fun α K => c_X3_returnToFirst as S s K) := by
  unfold c_X3_returnToFirst
  split
  · exact ge_cond (ge_bind (fun _ => ge_K rfl)) (ge_none)
  · exact ge_none
theorem ge_X3_begin (as : List Value) (S : ga_S) (s : ga_M) : ge_N (fun o => o.2.1 = S) (fun α K => c_X3_begin as S s K) := by
  unfold c_X3_begin
  split
  · exact ge_cond (ge_bind (fun _ => ge_K rfl)) (ge_none)
  · exact ge_none
theorem ge_X1_forget (as : List Value) (S : ga_S) (s : ga_M) : ge_N (fun o => o.2.1 = S) (fun α K => c_X1_forget as S s K) := by
  unfold c_X1_forget
  split
  · exact ge_cond (ge_K rfl) (ge_none)
  · exact ge_none
theorem ge_X11_parseSchool (as : List Value) (S : ga_S) (s : ga_M) : ge_N (fun o => o.2.1 = S) (fun α K => c_X11_parseSchool as S s K) := by
  unfold c_X11_parseSchool
  split
  · exact ge_cond (ge_bind (fun _ => ge_K rfl)) (ge_none)
  · exact ge_none
theorem ge_X12_byteAt (as : List Value) (S : ga_S) (s : ga_M) : ge_N (fun o => o.2.1 = S ∧ o.2.2 = s) (fun α K => c_X12_byteAt as S s K) := by
  unfold c_X12_byteAt
  split
  · exact ge_cond (ge_bind (fun _ => ge_K ⟨rfl, rfl⟩)) (ge_none)
  · exact ge_none
theorem ge_X12_isLetterAt (as : List Value) (S : ga_S) (s : ga_M) : ge_N (fun o => o.2.1 = S ∧ o.2.2 = s) (fun α K => c_X12_isLetterAt as S s K) := by
  unfold c_X12_isLetterAt
  split
  · exact ge_cond (ge_bind (fun _ => ge_K ⟨rfl, rfl⟩)) (ge_none)
  · exact ge_none
theorem ge_X12_isDigitAt (as : List Value) (S : ga_S) (s : ga_M) : ge_N (fun o => o.2.1 = S ∧ o.2.2 = s) (fun α K => c_X12_isDigitAt as S s K) := by
  unfold c_X12_isDigitAt
  split
  · exact ge_cond (ge_bind (fun _ => ge_K ⟨rfl, rfl⟩)) (ge_none)
  · exact ge_none
theorem ge_X12_next (as : List Value) (S : ga_S) (s : ga_M) : ge_N (fun o => o.2.1 = S) (fun α K => c_X12_next as S s K) := by
  unfold c_X12_next
  split
  · exact ge_cond (ge_bind (fun _ => ge_K rfl)) (ge_none)
  · exact ge_none
theorem ge_X12_begin (as : List Value) (S : ga_S) (s : ga_M) : ge_N (fun o => o.2.1 = S) (fun α K => c_X12_begin as S s K) := by
  unfold c_X12_begin
  split
  · exact ge_cond (ge_bind (fun _ => ge_K rfl)) (ge_none)
  · exact ge_none
theorem ge_X12_isWord (as : List Value) (S : ga_S) (s : ga_M) : ge_N (fun o => o.2.1 = S ∧ o.2.2 = s) (fun α K => c_X12_isWord as S s K) := by
  unfold c_X12_isWord
  split
  · exact ge_cond (ge_bind (fun _ => ge_K ⟨rfl, rfl⟩)) (ge_none)
  · exact ge_none
theorem ge_X12_goOn (as : List Value) (S : ga_S) (s : ga_M) : ge_N (fun o => o.2.1 = S) (fun α K => c_X12_goOn as S s K) := by
  unfold c_X12_goOn
  split
  · exact ge_cond (ge_bind (fun _ => ge_K rfl)) (ge_none)
  · exact ge_none
theorem ge_X12_wrong (as : List Value) (S : ga_S) (s : ga_M) : ge_N (fun o => o.2.1 = S) (fun α K => c_X12_wrong as S s K) := by
  unfold c_X12_wrong
  split
  · exact ge_cond (ge_K rfl) (ge_none)
  · exact ge_none
theorem ge_X12_must (as : List Value) (S : ga_S) (s : ga_M) : ge_N (fun o => o.2.1 = S) (fun α K => c_X12_must as S s K) := by
  unfold c_X12_must
  split
  · exact ge_cond (ge_bind (fun _ => ge_K rfl)) (ge_none)
  · exact ge_none
theorem ge_X12_digits (as : List Value) (S : ga_S) (s : ga_M) : ge_N (fun o => o.2.1 = S ∧ o.2.2 = s) (fun α K => c_X12_digits as S s K) := by
  unfold c_X12_digits
  split
  · exact ge_cond (ge_bind (fun _ => ge_K ⟨rfl, rfl⟩)) (ge_none)
  · exact ge_none
theorem ge_X12_see (as : List Value) (S : ga_S) (s : ga_M) : ge_N (fun o => o.2.1 = S) (fun α K => c_X12_see as S s K) := by
  unfold c_X12_see
  split
  · exact ge_cond (ge_bind (fun _ => ge_K rfl)) (ge_none)
  · exact ge_none
theorem ge_X12_number (as : List Value) (S : ga_S) (s : ga_M) : ge_N (fun o => o.2.1 = S) (fun α K => c_X12_number as S s K) := by
  unfold c_X12_number
  split
  · exact ge_cond (ge_bind (fun _ => ge_K rfl)) (ge_none)
  · exact ge_none
theorem ge_X12_opensThing (as : List Value) (S : ga_S) (s : ga_M) : ge_N (fun o => o.2.1 = S) (fun α K => c_X12_opensThing as S s K) := by
  unfold c_X12_opensThing
  split
  · exact ge_cond (ge_bind (fun _ => ge_K rfl)) (ge_none)
  · exact ge_none
theorem ge_X12_readKinds (as : List Value) (S : ga_S) (s : ga_M) : ge_N (fun o => o.2.1 = S) (fun α K => c_X12_readKinds as S s K) := by
  unfold c_X12_readKinds
  split
  · exact ge_cond (ge_bind (fun _ => ge_K rfl)) (ge_none)
  · exact ge_none
theorem ge_X12_has (as : List Value) (S : ga_S) (s : ga_M) : ge_N (fun o => o.2.1 = S ∧ o.2.2 = s) (fun α K => c_X12_has as S s K) := by
  unfold c_X12_has
  split
  · exact ge_K ⟨rfl, rfl⟩
  · exact ge_none
theorem ge_X12_readTeachers (as : List Value) (S : ga_S) (s : ga_M) : ge_N (fun o => o.2.1 = S) (fun α K => c_X12_readTeachers as S s K) := by
  unfold c_X12_readTeachers
  split
  · exact ge_cond (ge_bind (fun _ => ge_K rfl)) (ge_none)
  · exact ge_none
theorem ge_X12_isThere (as : List Value) (S : ga_S) (s : ga_M) : ge_N (fun o => o.2.1 = S ∧ o.2.2 = s) (fun α K => c_X12_isThere as S s K) := by
  unfold c_X12_isThere
  split
  · exact ge_cond (ge_bind (fun _ => ge_K ⟨rfl, rfl⟩)) (ge_none)
  · exact ge_none
theorem ge_X12_readLesson (as : List Value) (S : ga_S) (s : ga_M) : ge_N (fun o => o.2.1 = S) (fun α K => c_X12_readLesson as S s K) := by
  unfold c_X12_readLesson
  split
  · exact ge_cond (ge_bind (fun _ => ge_K rfl)) (ge_none)
  · exact ge_none
theorem ge_X12_firstly (as : List Value) (S : ga_S) (s : ga_M) : ge_N (fun o => o.2.1 = S) (fun α K => c_X12_firstly as S s K) := by
  unfold c_X12_firstly
  split
  · exact ge_cond (ge_bind (fun _ => ge_K rfl)) (ge_none)
  · exact ge_none
theorem ge_X12_beginAnew (as : List Value) (S : ga_S) (s : ga_M) : ge_N (fun o => o.2.1 = S) (fun α K => c_X12_beginAnew as S s K) := by
  unfold c_X12_beginAnew
  split
  · exact ge_cond (ge_bind (fun _ => ge_K rfl)) (ge_none)
  · exact ge_none
theorem ge_X12_parseSchool (as : List Value) (S : ga_S) (s : ga_M) : ge_N (fun o => o.2.1 = S) (fun α K => c_X12_parseSchool as S s K) := by
  unfold c_X12_parseSchool
  split
  · exact ge_cond (ge_bind (fun _ => ge_K rfl)) (ge_none)
  · exact ge_none
theorem ge_X1_baseOf (as : List Value) (S : ga_S) (s : ga_M) : ge_N (fun o => o.2.1 = S ∧ o.2.2 = s) (fun α K => c_X1_baseOf as S s K) := by
  unfold c_X1_baseOf
  split
  · exact ge_cond (ge_bind (fun _ => ge_K ⟨rfl, rfl⟩)) (ge_none)
  · exact ge_none
theorem ge_X1_mark (as : List Value) (S : ga_S) (s : ga_M) : ge_N (fun o => o.2.1 = S) (fun α K => c_X1_mark as S s K) := by
  unfold c_X1_mark
  split
  · exact ge_cond (ge_bind (fun _ => ge_K rfl)) (ge_none)
  · exact ge_none
theorem ge_X1_keepMarked (as : List Value) (S : ga_S) (s : ga_M) : ge_N (fun o => o.2.1 = S) (fun α K => c_X1_keepMarked as S s K) := by
  unfold c_X1_keepMarked
  split
  · exact ge_cond (ge_bind (fun _ => ge_K rfl)) (ge_none)
  · exact ge_none
theorem ge_X1_restoreMarked (as : List Value) (S : ga_S) (s : ga_M) : ge_N (fun o => o.2.1 = S) (fun α K => c_X1_restoreMarked as S s K) := by
  unfold c_X1_restoreMarked
  split
  · exact ge_cond (ge_bind (fun _ => ge_K rfl)) (ge_none)
  · exact ge_none
theorem ge_X9_wordOf (as : List Value) (S : ga_S) (s : ga_M) : ge_N (fun o => o.2.1 = S ∧ o.2.2 = s) (fun α K => c_X9_wordOf as S s K) := by
  unfold c_X9_wordOf
  split
  · exact ge_K ⟨rfl, rfl⟩
  · exact ge_none
theorem ge_X9_findStep (as : List Value) (S : ga_S) (s : ga_M) : ge_N (fun o => o.2.1 = S ∧ o.2.2 = s) (fun α K => c_X9_findStep as S s K) := by
  unfold c_X9_findStep
  split
  · exact ge_cond (ge_bind (fun _ => ge_K ⟨rfl, rfl⟩)) (ge_none)
  · exact ge_none
theorem ge_X9_numbersOf (as : List Value) (S : ga_S) (s : ga_M) : ge_N (fun o => o.2.1 = S ∧ o.2.2 = s) (fun α K => c_X9_numbersOf as S s K) := by
  unfold c_X9_numbersOf
  split
  · exact ge_K ⟨rfl, rfl⟩
  · exact ge_none
theorem ge_X9_readStep (as : List Value) (S : ga_S) (s : ga_M) : ge_N (fun o => o.2.1 = S) (fun α K => c_X9_readStep as S s K) := by
  unfold c_X9_readStep
  split
  · exact ge_cond (ge_bind (fun _ => ge_K rfl)) (ge_none)
  · exact ge_none
theorem ge_X7_hasDay (as : List Value) (S : ga_S) (s : ga_M) : ge_N (fun o => o.2.1 = S ∧ o.2.2 = s) (fun α K => c_X7_hasDay as S s K) := by
  unfold c_X7_hasDay
  split
  · exact ge_cond (ge_K ⟨rfl, rfl⟩) (ge_none)
  · exact ge_none
theorem ge_X3_makeOpen (as : List Value) (S : ga_S) (s : ga_M) : ge_N (fun o => o.2.1 = S) (fun α K => c_X3_makeOpen as S s K) := by
  unfold c_X3_makeOpen
  split
  · exact ge_cond (ge_K rfl) (ge_none)
  · exact ge_none
theorem ge_X2_letBeAbsent (as : List Value) (S : ga_S) (s : ga_M) : ge_N (fun o => o.2.1 = S) (fun α K => c_X2_letBeAbsent as S s K) := by
  unfold c_X2_letBeAbsent
  split
  · exact ge_cond (ge_bind (fun _ => ge_K rfl)) (ge_none)
  · exact ge_none
theorem ge_X7_hasLesson (as : List Value) (S : ga_S) (s : ga_M) : ge_N (fun o => o.2.1 = S ∧ o.2.2 = s) (fun α K => c_X7_hasLesson as S s K) := by
  unfold c_X7_hasLesson
  split
  · exact ge_cond (ge_K ⟨rfl, rfl⟩) (ge_none)
  · exact ge_none
theorem ge_X3_isOpen (as : List Value) (S : ga_S) (s : ga_M) : ge_N (fun o => o.2.1 = S ∧ o.2.2 = s) (fun α K => c_X3_isOpen as S s K) := by
  unfold c_X3_isOpen
  split
  · exact ge_cond (ge_K ⟨rfl, rfl⟩) (ge_none)
  · exact ge_none
theorem ge_X2_openAgain (as : List Value) (S : ga_S) (s : ga_M) : ge_N (fun o => o.2.1 = S) (fun α K => c_X2_openAgain as S s K) := by
  unfold c_X2_openAgain
  split
  · exact ge_cond (ge_K rfl) (ge_none)
  · exact ge_none
theorem ge_X0_presentAt (as : List Value) (S : ga_S) (s : ga_M) : ge_N (fun o => o.2.1 = S ∧ o.2.2 = s) (fun α K => c_X0_presentAt as S s K) := by
  unfold c_X0_presentAt
  split
  · exact ge_cond (ge_bind (fun _ => ge_K ⟨rfl, rfl⟩)) (ge_none)
  · exact ge_none
theorem ge_X3_isTaught (as : List Value) (S : ga_S) (s : ga_M) : ge_N (fun o => o.2.1 = S ∧ o.2.2 = s) (fun α K => c_X3_isTaught as S s K) := by
  unfold c_X3_isTaught
  split
  · exact ge_cond (ge_K ⟨rfl, rfl⟩) (ge_none)
  · exact ge_none
theorem ge_X7_qualifiedFor (as : List Value) (S : ga_S) (s : ga_M) : ge_N (fun o => o.2.1 = S ∧ o.2.2 = s) (fun α K => c_X7_qualifiedFor as S s K) := by
  unfold c_X7_qualifiedFor
  split
  · exact ge_cond (ge_bind (fun _ => ge_K ⟨rfl, rfl⟩)) (ge_none)
  · exact ge_none
theorem ge_X0_busyAt (as : List Value) (S : ga_S) (s : ga_M) : ge_N (fun o => o.2.1 = S) (fun α K => c_X0_busyAt as S s K) := by
  unfold c_X0_busyAt
  split
  · exact ge_cond (ge_bind (fun _ => ge_K rfl)) (ge_none)
  · exact ge_none
theorem ge_X3_loadOf (as : List Value) (S : ga_S) (s : ga_M) : ge_N (fun o => o.2.1 = S ∧ o.2.2 = s) (fun α K => c_X3_loadOf as S s K) := by
  unfold c_X3_loadOf
  split
  · exact ge_cond (ge_bind (fun _ => ge_K ⟨rfl, rfl⟩)) (ge_none)
  · exact ge_none
theorem ge_X0_leastLoaded (as : List Value) (S : ga_S) (s : ga_M) : ge_N (fun o => o.2.1 = S ∧ o.2.2 = s) (fun α K => c_X0_leastLoaded as S s K) := by
  unfold c_X0_leastLoaded
  split
  · exact ge_cond (ge_bind (fun _ => ge_K ⟨rfl, rfl⟩)) (ge_none)
  · exact ge_none
theorem ge_X0_successorsOf (as : List Value) (S : ga_S) (s : ga_M) : ge_N (fun o => o.2.1 = S ∧ o.2.2 = s) (fun α K => c_X0_successorsOf as S s K) := by
  unfold c_X0_successorsOf
  split
  · exact ge_cond (ge_bind (fun _ => ge_K ⟨rfl, rfl⟩)) (ge_none)
  · exact ge_none
theorem ge_X0_thoseBefore (as : List Value) (S : ga_S) (s : ga_M) : ge_N (fun o => o.2.1 = S ∧ o.2.2 = s) (fun α K => c_X0_thoseBefore as S s K) := by
  unfold c_X0_thoseBefore
  split
  · exact ge_cond (ge_bind (fun _ => ge_K ⟨rfl, rfl⟩)) (ge_none)
  · exact ge_none
theorem ge_X0_lowest (as : List Value) (S : ga_S) (s : ga_M) : ge_N (fun o => o.2.1 = S ∧ o.2.2 = s) (fun α K => c_X0_lowest as S s K) := by
  unfold c_X0_lowest
  split
  · exact ge_cond (ge_bind (fun _ => ge_K ⟨rfl, rfl⟩)) (ge_none)
  · exact ge_none
theorem ge_X0_choose (as : List Value) (S : ga_S) (s : ga_M) : ge_N (fun o => o.2.1 = S) (fun α K => c_X0_choose as S s K) := by
  unfold c_X0_choose
  split
  · exact ge_cond (ge_bind (fun _ => ge_K rfl)) (ge_none)
  · exact ge_none
theorem ge_X0_find (as : List Value) (S : ga_S) (s : ga_M) : ge_N (fun o => o.2.1 = S) (fun α K => c_X0_find as S s K) := by
  unfold c_X0_find
  split
  · exact ge_cond (ge_bind (fun _ => ge_K rfl)) (ge_none)
  · exact ge_none
theorem ge_X3_lessonAt (as : List Value) (S : ga_S) (s : ga_M) : ge_N (fun o => o.2.1 = S ∧ o.2.2 = s) (fun α K => c_X3_lessonAt as S s K) := by
  unfold c_X3_lessonAt
  split
  · exact ge_cond (ge_bind (fun _ => ge_K ⟨rfl, rfl⟩)) (ge_cond (ge_bind (fun _ => ge_K ⟨rfl, rfl⟩)) (ge_cond (ge_bind (fun _ => ge_K ⟨rfl, rfl⟩)) (ge_none)))
  · exact ge_none
theorem ge_X3_letTeach (as : List Value) (S : ga_S) (s : ga_M) : ge_N (fun o => o.2.1 = S) (fun α K => c_X3_letTeach as S s K) := by
  unfold c_X3_letTeach
  split
  · exact ge_cond (ge_K rfl) (ge_none)
  · exact ge_none
theorem ge_X2_repairByChain (as : List Value) (S : ga_S) (s : ga_M) : ge_N (fun o => o.2.1 = S) (fun α K => c_X2_repairByChain as S s K) := by
  unfold c_X2_repairByChain
  split
  · exact ge_cond (ge_bind (fun _ => ge_K rfl)) (ge_none)
  · exact ge_none
theorem ge_X7_hasRoom (as : List Value) (S : ga_S) (s : ga_M) : ge_N (fun o => o.2.1 = S ∧ o.2.2 = s) (fun α K => c_X7_hasRoom as S s K) := by
  unfold c_X7_hasRoom
  split
  · exact ge_cond (ge_K ⟨rfl, rfl⟩) (ge_none)
  · exact ge_none
theorem ge_X4_againstRoom (as : List Value) (S : ga_S) (s : ga_M) : ge_N (fun o => o.2.1 = S ∧ o.2.2 = s) (fun α K => c_X4_againstRoom as S s K) := by
  unfold c_X4_againstRoom
  split
  · exact ge_cond (ge_bind (fun _ => ge_K ⟨rfl, rfl⟩)) (ge_none)
  · exact ge_none
theorem ge_X2_moveToRoom (as : List Value) (S : ga_S) (s : ga_M) : ge_N (fun o => o.2.1 = S) (fun α K => c_X2_moveToRoom as S s K) := by
  unfold c_X2_moveToRoom
  split
  · exact ge_cond (ge_bind (fun _ => ge_K rfl)) (ge_none)
  · exact ge_none
theorem ge_X7_hasSlot (as : List Value) (S : ga_S) (s : ga_M) : ge_N (fun o => o.2.1 = S ∧ o.2.2 = s) (fun α K => c_X7_hasSlot as S s K) := by
  unfold c_X7_hasSlot
  split
  · exact ge_cond (ge_K ⟨rfl, rfl⟩) (ge_none)
  · exact ge_none
theorem ge_X4_isBusy (as : List Value) (S : ga_S) (s : ga_M) : ge_N (fun o => o.2.1 = S ∧ o.2.2 = s) (fun α K => c_X4_isBusy as S s K) := by
  unfold c_X4_isBusy
  split
  · exact ge_cond (ge_bind (fun _ => ge_K ⟨rfl, rfl⟩)) (ge_none)
  · exact ge_none
theorem ge_X4_isTeacherAwayAt (as : List Value) (S : ga_S) (s : ga_M) : ge_N (fun o => o.2.1 = S ∧ o.2.2 = s) (fun α K => c_X4_isTeacherAwayAt as S s K) := by
  unfold c_X4_isTeacherAwayAt
  split
  · exact ge_cond (ge_bind (fun _ => ge_K ⟨rfl, rfl⟩)) (ge_none)
  · exact ge_none
theorem ge_X4_againstMove (as : List Value) (S : ga_S) (s : ga_M) : ge_N (fun o => o.2.1 = S ∧ o.2.2 = s) (fun α K => c_X4_againstMove as S s K) := by
  unfold c_X4_againstMove
  split
  · exact ge_cond (ge_bind (fun _ => ge_K ⟨rfl, rfl⟩)) (ge_none)
  · exact ge_none
theorem ge_X2_moveToSlot (as : List Value) (S : ga_S) (s : ga_M) : ge_N (fun o => o.2.1 = S) (fun α K => c_X2_moveToSlot as S s K) := by
  unfold c_X2_moveToSlot
  split
  · exact ge_cond (ge_bind (fun _ => ge_K rfl)) (ge_none)
  · exact ge_none
theorem ge_X4_isHeldByThird (as : List Value) (S : ga_S) (s : ga_M) : ge_N (fun o => o.2.1 = S ∧ o.2.2 = s) (fun α K => c_X4_isHeldByThird as S s K) := by
  unfold c_X4_isHeldByThird
  split
  · exact ge_cond (ge_bind (fun _ => ge_K ⟨rfl, rfl⟩)) (ge_cond (ge_bind (fun _ => ge_K ⟨rfl, rfl⟩)) (ge_none))
  · exact ge_none
theorem ge_X4_againstExchange (as : List Value) (S : ga_S) (s : ga_M) : ge_N (fun o => o.2.1 = S ∧ o.2.2 = s) (fun α K => c_X4_againstExchange as S s K) := by
  unfold c_X4_againstExchange
  split
  · exact ge_cond (ge_bind (fun _ => ge_K ⟨rfl, rfl⟩)) (ge_none)
  · exact ge_none
theorem ge_X2_swapSlots (as : List Value) (S : ga_S) (s : ga_M) : ge_N (fun o => o.2.1 = S) (fun α K => c_X2_swapSlots as S s K) := by
  unfold c_X2_swapSlots
  split
  · exact ge_cond (ge_bind (fun _ => ge_K rfl)) (ge_none)
  · exact ge_none
theorem ge_X3_isSupervised (as : List Value) (S : ga_S) (s : ga_M) : ge_N (fun o => o.2.1 = S ∧ o.2.2 = s) (fun α K => c_X3_isSupervised as S s K) := by
  unfold c_X3_isSupervised
  split
  · exact ge_cond (ge_K ⟨rfl, rfl⟩) (ge_none)
  · exact ge_none
theorem ge_X3_dutiesOn (as : List Value) (S : ga_S) (s : ga_M) : ge_N (fun o => o.2.1 = S ∧ o.2.2 = s) (fun α K => c_X3_dutiesOn as S s K) := by
  unfold c_X3_dutiesOn
  split
  · exact ge_cond (ge_bind (fun _ => ge_K ⟨rfl, rfl⟩)) (ge_none)
  · exact ge_none
theorem ge_X4_againstSupervision (as : List Value) (S : ga_S) (s : ga_M) : ge_N (fun o => o.2.1 = S ∧ o.2.2 = s) (fun α K => c_X4_againstSupervision as S s K) := by
  unfold c_X4_againstSupervision
  split
  · exact ge_cond (ge_bind (fun _ => ge_K ⟨rfl, rfl⟩)) (ge_none)
  · exact ge_none
theorem ge_X3_letWatch (as : List Value) (S : ga_S) (s : ga_M) : ge_N (fun o => o.2.1 = S) (fun α K => c_X3_letWatch as S s K) := by
  unfold c_X3_letWatch
  split
  · exact ge_cond (ge_K rfl) (ge_none)
  · exact ge_none
theorem ge_X2_letSupervise (as : List Value) (S : ga_S) (s : ga_M) : ge_N (fun o => o.2.1 = S) (fun α K => c_X2_letSupervise as S s K) := by
  unfold c_X2_letSupervise
  split
  · exact ge_cond (ge_bind (fun _ => ge_K rfl)) (ge_none)
  · exact ge_none
theorem ge_X4_againstCover (as : List Value) (S : ga_S) (s : ga_M) : ge_N (fun o => o.2.1 = S ∧ o.2.2 = s) (fun α K => c_X4_againstCover as S s K) := by
  unfold c_X4_againstCover
  split
  · exact ge_cond (ge_bind (fun _ => ge_K ⟨rfl, rfl⟩)) (ge_none)
  · exact ge_none
theorem ge_X2_letCover (as : List Value) (S : ga_S) (s : ga_M) : ge_N (fun o => o.2.1 = S) (fun α K => c_X2_letCover as S s K) := by
  unfold c_X2_letCover
  split
  · exact ge_cond (ge_bind (fun _ => ge_K rfl)) (ge_none)
  · exact ge_none
theorem ge_X2_repairOpenLessons (as : List Value) (S : ga_S) (s : ga_M) : ge_N (fun o => o.2.1 = S) (fun α K => c_X2_repairOpenLessons as S s K) := by
  unfold c_X2_repairOpenLessons
  split
  · exact ge_cond (ge_bind (fun _ => ge_K rfl)) (ge_none)
  · exact ge_none
theorem ge_X2_perform (as : List Value) (S : ga_S) (s : ga_M) : ge_N (fun o => o.2.1 = S) (fun α K => c_X2_perform as S s K) := by
  unfold c_X2_perform
  split
  · exact ge_cond (ge_bind (fun _ => ge_K rfl)) (ge_none)
  · exact ge_none
theorem ge_X11_runScript (as : List Value) (S : ga_S) (s : ga_M) : ge_N (fun o => o.2.1 = S) (fun α K => c_X11_runScript as S s K) := by
  unfold c_X11_runScript
  split
  · exact ge_cond (ge_bind (fun _ => ge_K rfl)) (ge_none)
  · exact ge_none
theorem ge_X12_copyRow (as : List Value) (S : ga_S) (s : ga_M) : ge_N (fun o => o.2.1 = S) (fun α K => c_X12_copyRow as S s K) := by
  unfold c_X12_copyRow
  split
  · exact ge_cond (ge_bind (fun _ => ge_K rfl)) (ge_cond (ge_bind (fun _ => ge_K rfl)) (ge_none))
  · exact ge_none
theorem ge_X12_push (as : List Value) (S : ga_S) (s : ga_M) : ge_N (fun o => o.2.1 = S) (fun α K => c_X12_push as S s K) := by
  unfold c_X12_push
  split
  · exact ge_cond (ge_bind (fun _ => ge_K rfl)) (ge_none)
  · exact ge_none
theorem ge_X12_stepHere (as : List Value) (S : ga_S) (s : ga_M) : ge_N (fun o => o.2.1 = S ∧ o.2.2 = s) (fun α K => c_X12_stepHere as S s K) := by
  unfold c_X12_stepHere
  split
  · exact ge_cond (ge_bind (fun _ => ge_K ⟨rfl, rfl⟩)) (ge_none)
  · exact ge_none
theorem ge_X12_figure (as : List Value) (S : ga_S) (s : ga_M) : ge_N (fun o => o.2.1 = S) (fun α K => c_X12_figure as S s K) := by
  unfold c_X12_figure
  split
  · exact ge_cond (ge_bind (fun _ => ge_K rfl)) (ge_none)
  · exact ge_none
theorem ge_X12_isLesson (as : List Value) (S : ga_S) (s : ga_M) : ge_N (fun o => o.2.1 = S ∧ o.2.2 = s) (fun α K => c_X12_isLesson as S s K) := by
  unfold c_X12_isLesson
  split
  · exact ge_cond (ge_K ⟨rfl, rfl⟩) (ge_none)
  · exact ge_none
theorem ge_X12_isOpen (as : List Value) (S : ga_S) (s : ga_M) : ge_N (fun o => o.2.1 = S ∧ o.2.2 = s) (fun α K => c_X12_isOpen as S s K) := by
  unfold c_X12_isOpen
  split
  · exact ge_cond (ge_bind (fun _ => ge_K ⟨rfl, rfl⟩)) (ge_none)
  · exact ge_none
theorem ge_X12_isRoom (as : List Value) (S : ga_S) (s : ga_M) : ge_N (fun o => o.2.1 = S ∧ o.2.2 = s) (fun α K => c_X12_isRoom as S s K) := by
  unfold c_X12_isRoom
  split
  · exact ge_cond (ge_K ⟨rfl, rfl⟩) (ge_none)
  · exact ge_none
theorem ge_X12_lessonWith (as : List Value) (S : ga_S) (s : ga_M) : ge_N (fun o => o.2.1 = S ∧ o.2.2 = s) (fun α K => c_X12_lessonWith as S s K) := by
  unfold c_X12_lessonWith
  split
  · exact ge_cond (ge_bind (fun _ => ge_K ⟨rfl, rfl⟩)) (ge_none)
  · exact ge_none
theorem ge_X12_reasonForRoom (as : List Value) (S : ga_S) (s : ga_M) : ge_N (fun o => o.2.1 = S ∧ o.2.2 = s) (fun α K => c_X12_reasonForRoom as S s K) := by
  unfold c_X12_reasonForRoom
  split
  · exact ge_cond (ge_bind (fun _ => ge_K ⟨rfl, rfl⟩)) (ge_none)
  · exact ge_none
theorem ge_X12_slots (as : List Value) (S : ga_S) (s : ga_M) : ge_N (fun o => o.2.1 = S ∧ o.2.2 = s) (fun α K => c_X12_slots as S s K) := by
  unfold c_X12_slots
  split
  · exact ge_cond (ge_K ⟨rfl, rfl⟩) (ge_none)
  · exact ge_none
theorem ge_X12_isSlot (as : List Value) (S : ga_S) (s : ga_M) : ge_N (fun o => o.2.1 = S ∧ o.2.2 = s) (fun α K => c_X12_isSlot as S s K) := by
  unfold c_X12_isSlot
  split
  · exact ge_cond (ge_K ⟨rfl, rfl⟩) (ge_none)
  · exact ge_none
theorem ge_X12_ofClass (as : List Value) (S : ga_S) (s : ga_M) : ge_N (fun o => o.2.1 = S ∧ o.2.2 = s) (fun α K => c_X12_ofClass as S s K) := by
  unfold c_X12_ofClass
  split
  · exact ge_cond (ge_bind (fun _ => ge_K ⟨rfl, rfl⟩)) (ge_none)
  · exact ge_none
theorem ge_X12_ofTeacher (as : List Value) (S : ga_S) (s : ga_M) : ge_N (fun o => o.2.1 = S ∧ o.2.2 = s) (fun α K => c_X12_ofTeacher as S s K) := by
  unfold c_X12_ofTeacher
  split
  · exact ge_cond (ge_bind (fun _ => ge_K ⟨rfl, rfl⟩)) (ge_none)
  · exact ge_none
theorem ge_X12_dayOf (as : List Value) (S : ga_S) (s : ga_M) : ge_N (fun o => o.2.1 = S ∧ o.2.2 = s) (fun α K => c_X12_dayOf as S s K) := by
  unfold c_X12_dayOf
  split
  · exact ge_cond (ge_bind (fun _ => ge_K ⟨rfl, rfl⟩)) (ge_none)
  · exact ge_none
theorem ge_X12_isAbsent (as : List Value) (S : ga_S) (s : ga_M) : ge_N (fun o => o.2.1 = S ∧ o.2.2 = s) (fun α K => c_X12_isAbsent as S s K) := by
  unfold c_X12_isAbsent
  split
  · exact ge_cond (ge_bind (fun _ => ge_K ⟨rfl, rfl⟩)) (ge_none)
  · exact ge_none
theorem ge_X12_reasonToMove (as : List Value) (S : ga_S) (s : ga_M) : ge_N (fun o => o.2.1 = S ∧ o.2.2 = s) (fun α K => c_X12_reasonToMove as S s K) := by
  unfold c_X12_reasonToMove
  split
  · exact ge_cond (ge_bind (fun _ => ge_K ⟨rfl, rfl⟩)) (ge_none)
  · exact ge_none
theorem ge_X12_isElsewhere (as : List Value) (S : ga_S) (s : ga_M) : ge_N (fun o => o.2.1 = S ∧ o.2.2 = s) (fun α K => c_X12_isElsewhere as S s K) := by
  unfold c_X12_isElsewhere
  split
  · exact ge_cond (ge_bind (fun _ => ge_K ⟨rfl, rfl⟩)) (ge_none)
  · exact ge_none
theorem ge_X12_reasonToExchange (as : List Value) (S : ga_S) (s : ga_M) : ge_N (fun o => o.2.1 = S ∧ o.2.2 = s) (fun α K => c_X12_reasonToExchange as S s K) := by
  unfold c_X12_reasonToExchange
  split
  · exact ge_cond (ge_bind (fun _ => ge_K ⟨rfl, rfl⟩)) (ge_none)
  · exact ge_none
theorem ge_X12_isQualified (as : List Value) (S : ga_S) (s : ga_M) : ge_N (fun o => o.2.1 = S ∧ o.2.2 = s) (fun α K => c_X12_isQualified as S s K) := by
  unfold c_X12_isQualified
  split
  · exact ge_cond (ge_bind (fun _ => ge_K ⟨rfl, rfl⟩)) (ge_none)
  · exact ge_none
theorem ge_X12_isOnWay (as : List Value) (S : ga_S) (s : ga_M) : ge_N (fun o => o.2.1 = S ∧ o.2.2 = s) (fun α K => c_X12_isOnWay as S s K) := by
  unfold c_X12_isOnWay
  split
  · exact ge_cond (ge_bind (fun _ => ge_K ⟨rfl, rfl⟩)) (ge_none)
  · exact ge_none
theorem ge_X12_isTaught (as : List Value) (S : ga_S) (s : ga_M) : ge_N (fun o => o.2.1 = S ∧ o.2.2 = s) (fun α K => c_X12_isTaught as S s K) := by
  unfold c_X12_isTaught
  split
  · exact ge_cond (ge_bind (fun _ => ge_K ⟨rfl, rfl⟩)) (ge_none)
  · exact ge_none
theorem ge_X12_taughtBy (as : List Value) (S : ga_S) (s : ga_M) : ge_N (fun o => o.2.1 = S ∧ o.2.2 = s) (fun α K => c_X12_taughtBy as S s K) := by
  unfold c_X12_taughtBy
  split
  · exact ge_cond (ge_bind (fun _ => ge_K ⟨rfl, rfl⟩)) (ge_none)
  · exact ge_none
theorem ge_X12_firstBy (as : List Value) (S : ga_S) (s : ga_M) : ge_N (fun o => o.2.1 = S ∧ o.2.2 = s) (fun α K => c_X12_firstBy as S s K) := by
  unfold c_X12_firstBy
  split
  · exact ge_cond (ge_bind (fun _ => ge_K ⟨rfl, rfl⟩)) (ge_none)
  · exact ge_none
theorem ge_X12_loadOf (as : List Value) (S : ga_S) (s : ga_M) : ge_N (fun o => o.2.1 = S ∧ o.2.2 = s) (fun α K => c_X12_loadOf as S s K) := by
  unfold c_X12_loadOf
  split
  · exact ge_cond (ge_bind (fun _ => ge_K ⟨rfl, rfl⟩)) (ge_none)
  · exact ge_none
theorem ge_X12_goes3 (as : List Value) (S : ga_S) (s : ga_M) : ge_N (fun o => o.2.1 = S) (fun α K => c_X12_goes3 as S s K) := by
  unfold c_X12_goes3
  split
  · exact ge_cond (ge_bind (fun _ => ge_K rfl)) (ge_none)
  · exact ge_none
theorem ge_X12_goes2 (as : List Value) (S : ga_S) (s : ga_M) : ge_N (fun o => o.2.1 = S) (fun α K => c_X12_goes2 as S s K) := by
  unfold c_X12_goes2
  split
  · exact ge_cond (ge_bind (fun _ => ge_K rfl)) (ge_none)
  · exact ge_none
theorem ge_X12_goes1 (as : List Value) (S : ga_S) (s : ga_M) : ge_N (fun o => o.2.1 = S) (fun α K => c_X12_goes1 as S s K) := by
  unfold c_X12_goes1
  split
  · exact ge_cond (ge_bind (fun _ => ge_K rfl)) (ge_none)
  · exact ge_none
theorem ge_X12_goes0 (as : List Value) (S : ga_S) (s : ga_M) : ge_N (fun o => o.2.1 = S) (fun α K => c_X12_goes0 as S s K) := by
  unfold c_X12_goes0
  split
  · exact ge_cond (ge_bind (fun _ => ge_K rfl)) (ge_none)
  · exact ge_none
theorem ge_X12_findChain (as : List Value) (S : ga_S) (s : ga_M) : ge_N (fun o => o.2.1 = S) (fun α K => c_X12_findChain as S s K) := by
  unfold c_X12_findChain
  split
  · exact ge_cond (ge_bind (fun _ => ge_K rfl)) (ge_none)
  · exact ge_none
theorem ge_X12_isTeacher (as : List Value) (S : ga_S) (s : ga_M) : ge_N (fun o => o.2.1 = S ∧ o.2.2 = s) (fun α K => c_X12_isTeacher as S s K) := by
  unfold c_X12_isTeacher
  split
  · exact ge_cond (ge_K ⟨rfl, rfl⟩) (ge_none)
  · exact ge_none
theorem ge_X12_dutiesOf (as : List Value) (S : ga_S) (s : ga_M) : ge_N (fun o => o.2.1 = S ∧ o.2.2 = s) (fun α K => c_X12_dutiesOf as S s K) := by
  unfold c_X12_dutiesOf
  split
  · exact ge_cond (ge_bind (fun _ => ge_K ⟨rfl, rfl⟩)) (ge_none)
  · exact ge_none
theorem ge_X12_reasonToWatch (as : List Value) (S : ga_S) (s : ga_M) : ge_N (fun o => o.2.1 = S ∧ o.2.2 = s) (fun α K => c_X12_reasonToWatch as S s K) := by
  unfold c_X12_reasonToWatch
  split
  · exact ge_cond (ge_bind (fun _ => ge_K ⟨rfl, rfl⟩)) (ge_none)
  · exact ge_none
theorem ge_X12_reasonToCover (as : List Value) (S : ga_S) (s : ga_M) : ge_N (fun o => o.2.1 = S ∧ o.2.2 = s) (fun α K => c_X12_reasonToCover as S s K) := by
  unfold c_X12_reasonToCover
  split
  · exact ge_cond (ge_bind (fun _ => ge_K ⟨rfl, rfl⟩)) (ge_none)
  · exact ge_none
theorem ge_X12_isDay (as : List Value) (S : ga_S) (s : ga_M) : ge_N (fun o => o.2.1 = S ∧ o.2.2 = s) (fun α K => c_X12_isDay as S s K) := by
  unfold c_X12_isDay
  split
  · exact ge_cond (ge_K ⟨rfl, rfl⟩) (ge_none)
  · exact ge_none
theorem ge_X12_canStep (as : List Value) (S : ga_S) (s : ga_M) : ge_N (fun o => o.2.1 = S) (fun α K => c_X12_canStep as S s K) := by
  unfold c_X12_canStep
  split
  · exact ge_cond (ge_bind (fun _ => ge_K rfl)) (ge_none)
  · exact ge_none
theorem ge_X12_opens (as : List Value) (S : ga_S) (s : ga_M) : ge_N (fun o => o.2.1 = S) (fun α K => c_X12_opens as S s K) := by
  unfold c_X12_opens
  split
  · exact ge_cond (ge_bind (fun _ => ge_K rfl)) (ge_none)
  · exact ge_none
theorem ge_X12_swaps (as : List Value) (S : ga_S) (s : ga_M) : ge_N (fun o => o.2.1 = S) (fun α K => c_X12_swaps as S s K) := by
  unfold c_X12_swaps
  split
  · exact ge_cond (ge_bind (fun _ => ge_K rfl)) (ge_none)
  · exact ge_none
theorem ge_X12_chains (as : List Value) (S : ga_S) (s : ga_M) : ge_N (fun o => o.2.1 = S) (fun α K => c_X12_chains as S s K) := by
  unfold c_X12_chains
  split
  · exact ge_cond (ge_bind (fun _ => ge_K rfl)) (ge_none)
  · exact ge_none
theorem ge_X12_repairsAll (as : List Value) (S : ga_S) (s : ga_M) : ge_N (fun o => o.2.1 = S) (fun α K => c_X12_repairsAll as S s K) := by
  unfold c_X12_repairsAll
  split
  · exact ge_cond (ge_bind (fun _ => ge_K rfl)) (ge_none)
  · exact ge_none
theorem ge_X12_gives (as : List Value) (S : ga_S) (s : ga_M) : ge_N (fun o => o.2.1 = S) (fun α K => c_X12_gives as S s K) := by
  unfold c_X12_gives
  split
  · exact ge_cond (ge_bind (fun _ => ge_K rfl)) (ge_none)
  · exact ge_none
theorem ge_X12_absents (as : List Value) (S : ga_S) (s : ga_M) : ge_N (fun o => o.2.1 = S) (fun α K => c_X12_absents as S s K) := by
  unfold c_X12_absents
  split
  · exact ge_cond (ge_bind (fun _ => ge_K rfl)) (ge_none)
  · exact ge_none
theorem ge_X12_doStep (as : List Value) (S : ga_S) (s : ga_M) : ge_N (fun o => o.2.1 = S) (fun α K => c_X12_doStep as S s K) := by
  unfold c_X12_doStep
  split
  · exact ge_cond (ge_bind (fun _ => ge_K rfl)) (ge_none)
  · exact ge_none
theorem ge_X12_goesThrough (as : List Value) (S : ga_S) (s : ga_M) : ge_N (fun o => o.2.1 = S) (fun α K => c_X12_goesThrough as S s K) := by
  unfold c_X12_goesThrough
  split
  · exact ge_cond (ge_bind (fun _ => ge_K rfl)) (ge_none)
  · exact ge_none
theorem ge_X12_runScript (as : List Value) (S : ga_S) (s : ga_M) : ge_N (fun o => o.2.1 = S) (fun α K => c_X12_runScript as S s K) := by
  unfold c_X12_runScript
  split
  · exact ge_cond (ge_bind (fun _ => ge_K rfl)) (ge_none)
  · exact ge_none
theorem ge_X11_errorCode (as : List Value) (S : ga_S) (s : ga_M) : ge_N (fun o => o.2.1 = S ∧ o.2.2 = s) (fun α K => c_X11_errorCode as S s K) := by
  unfold c_X11_errorCode
  split
  · exact ge_cond (ge_K ⟨rfl, rfl⟩) (ge_none)
  · exact ge_none
theorem ge_X12_errorCode (as : List Value) (S : ga_S) (s : ga_M) : ge_N (fun o => o.2.1 = S) (fun α K => c_X12_errorCode as S s K) := by
  unfold c_X12_errorCode
  split
  · exact ge_cond (ge_K rfl) (ge_none)
  · exact ge_none
theorem ge_X11_errorPosition (as : List Value) (S : ga_S) (s : ga_M) : ge_N (fun o => o.2.1 = S ∧ o.2.2 = s) (fun α K => c_X11_errorPosition as S s K) := by
  unfold c_X11_errorPosition
  split
  · exact ge_cond (ge_K ⟨rfl, rfl⟩) (ge_none)
  · exact ge_none
theorem ge_X12_errorPosition (as : List Value) (S : ga_S) (s : ga_M) : ge_N (fun o => o.2.1 = S) (fun α K => c_X12_errorPosition as S s K) := by
  unfold c_X12_errorPosition
  split
  · exact ge_cond (ge_K rfl) (ge_none)
  · exact ge_none
theorem ge_X11_requireTeacher (as : List Value) (S : ga_S) (s : ga_M) : ge_N (fun o => o.2.1 = S ∧ o.2.2 = s) (fun α K => c_X11_requireTeacher as S s K) := by
  unfold c_X11_requireTeacher
  split
  · exact ge_cond (ge_elimO (ge_K ⟨rfl, rfl⟩) (fun _ => ge_K ⟨rfl, rfl⟩)) (ge_none)
  · exact ge_none
theorem ge_X11_requireDay (as : List Value) (S : ga_S) (s : ga_M) : ge_N (fun o => o.2.1 = S ∧ o.2.2 = s) (fun α K => c_X11_requireDay as S s K) := by
  unfold c_X11_requireDay
  split
  · exact ge_cond (ge_elimO (ge_K ⟨rfl, rfl⟩) (fun _ => ge_K ⟨rfl, rfl⟩)) (ge_none)
  · exact ge_none
theorem ge_X11_setAbsent (as : List Value) (S : ga_S) (s : ga_M) : ge_N (fun o => o.2.1 = S) (fun α K => c_X11_setAbsent as S s K) := by
  unfold c_X11_setAbsent
  split
  · exact ge_cond (ge_bind (fun q => ge_elimS (x := q.1) (fun _ => ge_K rfl) (fun _ => ge_K rfl))) (ge_none)
  · exact ge_none
theorem ge_X12_fails (as : List Value) (S : ga_S) (s : ga_M) : ge_N (fun o => o.2.1 = S) (fun α K => c_X12_fails as S s K) := by
  unfold c_X12_fails
  split
  · exact ge_cond (ge_if (ge_K rfl) ge_none) (ge_none)
  · exact ge_none
theorem ge_X12_remember (as : List Value) (S : ga_S) (s : ga_M) : ge_N (fun o => o.2.1 = S) (fun α K => c_X12_remember as S s K) := by
  unfold c_X12_remember
  split
  · exact ge_cond (ge_bind (fun _ => ge_K rfl)) (ge_none)
  · exact ge_none
theorem ge_X12_setAbsent (as : List Value) (S : ga_S) (s : ga_M) : ge_N (fun o => o.2.1 = S) (fun α K => c_X12_setAbsent as S s K) := by
  unfold c_X12_setAbsent
  split
  · exact ge_cond (ge_bind (fun _ => ge_K rfl)) (ge_none)
  · exact ge_none
theorem ge_X11_requireLesson (as : List Value) (S : ga_S) (s : ga_M) : ge_N (fun o => o.2.1 = S ∧ o.2.2 = s) (fun α K => c_X11_requireLesson as S s K) := by
  unfold c_X11_requireLesson
  split
  · exact ge_cond (ge_elimO (ge_K ⟨rfl, rfl⟩) (fun _ => ge_K ⟨rfl, rfl⟩)) (ge_none)
  · exact ge_none
theorem ge_X11_keepUnlessRefused (as : List Value) (S : ga_S) (s : ga_M) : ge_N (fun o => o.2.1 = S) (fun α K => c_X11_keepUnlessRefused as S s K) := by
  unfold c_X11_keepUnlessRefused
  split
  · exact ge_cond (ge_bind (fun q => ge_elimO (x := q.1) (ge_K rfl) (fun _ => ge_K rfl))) (ge_none)
  · exact ge_none
theorem ge_X11_cover (as : List Value) (S : ga_S) (s : ga_M) : ge_N (fun o => o.2.1 = S) (fun α K => c_X11_cover as S s K) := by
  unfold c_X11_cover
  split
  · exact ge_cond (ge_bind (fun q => ge_elimS (x := q.1) (fun _ => ge_K rfl) (fun _ => ge_K rfl))) (ge_none)
  · exact ge_none
theorem ge_X12_cover (as : List Value) (S : ga_S) (s : ga_M) : ge_N (fun o => o.2.1 = S) (fun α K => c_X12_cover as S s K) := by
  unfold c_X12_cover
  split
  · exact ge_cond (ge_bind (fun _ => ge_K rfl)) (ge_none)
  · exact ge_none
theorem ge_X3_dutiesOf (as : List Value) (S : ga_S) (s : ga_M) : ge_N (fun o => o.2.1 = S ∧ o.2.2 = s) (fun α K => c_X3_dutiesOf as S s K) := by
  unfold c_X3_dutiesOf
  split
  · exact ge_cond (ge_bind (fun _ => ge_K ⟨rfl, rfl⟩)) (ge_none)
  · exact ge_none
theorem ge_X11_supervise (as : List Value) (S : ga_S) (s : ga_M) : ge_N (fun o => o.2.1 = S) (fun α K => c_X11_supervise as S s K) := by
  unfold c_X11_supervise
  split
  · exact ge_cond (ge_bind (fun q => ge_elimS (x := q.1) (fun _ => ge_K rfl) (fun _ => ge_K rfl))) (ge_none)
  · exact ge_none
theorem ge_X12_supervise (as : List Value) (S : ga_S) (s : ga_M) : ge_N (fun o => o.2.1 = S) (fun α K => c_X12_supervise as S s K) := by
  unfold c_X12_supervise
  split
  · exact ge_cond (ge_bind (fun _ => ge_K rfl)) (ge_none)
  · exact ge_none
theorem ge_X11_repair (as : List Value) (S : ga_S) (s : ga_M) : ge_N (fun o => o.2.1 = S) (fun α K => c_X11_repair as S s K) := by
  unfold c_X11_repair
  split
  · exact ge_cond (ge_bind (fun q => ge_elimS (x := q.1) (fun _ => ge_K rfl) (fun _ => ge_K rfl))) (ge_none)
  · exact ge_none
theorem ge_X12_repair (as : List Value) (S : ga_S) (s : ga_M) : ge_N (fun o => o.2.1 = S) (fun α K => c_X12_repair as S s K) := by
  unfold c_X12_repair
  split
  · exact ge_cond (ge_bind (fun _ => ge_K rfl)) (ge_none)
  · exact ge_none
theorem ge_X11_repairAll (as : List Value) (S : ga_S) (s : ga_M) : ge_N (fun o => o.2.1 = S) (fun α K => c_X11_repairAll as S s K) := by
  unfold c_X11_repairAll
  split
  · exact ge_cond (ge_bind (fun _ => ge_K rfl)) (ge_none)
  · exact ge_none
theorem ge_X12_repairAll (as : List Value) (S : ga_S) (s : ga_M) : ge_N (fun o => o.2.1 = S) (fun α K => c_X12_repairAll as S s K) := by
  unfold c_X12_repairAll
  split
  · exact ge_cond (ge_bind (fun _ => ge_K rfl)) (ge_none)
  · exact ge_none
theorem ge_X11_exchange (as : List Value) (S : ga_S) (s : ga_M) : ge_N (fun o => o.2.1 = S) (fun α K => c_X11_exchange as S s K) := by
  unfold c_X11_exchange
  split
  · exact ge_cond (ge_bind (fun q => ge_elimS (x := q.1) (fun _ => ge_K rfl) (fun _ => ge_K rfl))) (ge_none)
  · exact ge_none
theorem ge_X12_exchange (as : List Value) (S : ga_S) (s : ga_M) : ge_N (fun o => o.2.1 = S) (fun α K => c_X12_exchange as S s K) := by
  unfold c_X12_exchange
  split
  · exact ge_cond (ge_bind (fun _ => ge_K rfl)) (ge_none)
  · exact ge_none
theorem ge_X11_requireSlot (as : List Value) (S : ga_S) (s : ga_M) : ge_N (fun o => o.2.1 = S ∧ o.2.2 = s) (fun α K => c_X11_requireSlot as S s K) := by
  unfold c_X11_requireSlot
  split
  · exact ge_cond (ge_elimO (ge_K ⟨rfl, rfl⟩) (fun _ => ge_K ⟨rfl, rfl⟩)) (ge_none)
  · exact ge_none
theorem ge_X11_move (as : List Value) (S : ga_S) (s : ga_M) : ge_N (fun o => o.2.1 = S) (fun α K => c_X11_move as S s K) := by
  unfold c_X11_move
  split
  · exact ge_cond (ge_bind (fun q => ge_elimS (x := q.1) (fun _ => ge_K rfl) (fun _ => ge_K rfl))) (ge_none)
  · exact ge_none
theorem ge_X12_move (as : List Value) (S : ga_S) (s : ga_M) : ge_N (fun o => o.2.1 = S) (fun α K => c_X12_move as S s K) := by
  unfold c_X12_move
  split
  · exact ge_cond (ge_bind (fun _ => ge_K rfl)) (ge_none)
  · exact ge_none
theorem ge_X11_requireRoom (as : List Value) (S : ga_S) (s : ga_M) : ge_N (fun o => o.2.1 = S ∧ o.2.2 = s) (fun α K => c_X11_requireRoom as S s K) := by
  unfold c_X11_requireRoom
  split
  · exact ge_cond (ge_elimO (ge_K ⟨rfl, rfl⟩) (fun _ => ge_K ⟨rfl, rfl⟩)) (ge_none)
  · exact ge_none
theorem ge_X11_setRoom (as : List Value) (S : ga_S) (s : ga_M) : ge_N (fun o => o.2.1 = S) (fun α K => c_X11_setRoom as S s K) := by
  unfold c_X11_setRoom
  split
  · exact ge_cond (ge_bind (fun q => ge_elimS (x := q.1) (fun _ => ge_K rfl) (fun _ => ge_K rfl))) (ge_none)
  · exact ge_none
theorem ge_X12_setRoom (as : List Value) (S : ga_S) (s : ga_M) : ge_N (fun o => o.2.1 = S) (fun α K => c_X12_setRoom as S s K) := by
  unfold c_X12_setRoom
  split
  · exact ge_cond (ge_bind (fun _ => ge_K rfl)) (ge_none)
  · exact ge_none
theorem ge_X11_reopen (as : List Value) (S : ga_S) (s : ga_M) : ge_N (fun o => o.2.1 = S) (fun α K => c_X11_reopen as S s K) := by
  unfold c_X11_reopen
  split
  · exact ge_cond (ge_bind (fun q => ge_elimS (x := q.1) (fun _ => ge_K rfl) (fun _ => ge_K rfl))) (ge_none)
  · exact ge_none
theorem ge_X12_reopen (as : List Value) (S : ga_S) (s : ga_M) : ge_N (fun o => o.2.1 = S) (fun α K => c_X12_reopen as S s K) := by
  unfold c_X12_reopen
  split
  · exact ge_cond (ge_bind (fun _ => ge_K rfl)) (ge_none)
  · exact ge_none
theorem ge_X3_differs (as : List Value) (S : ga_S) (s : ga_M) : ge_N (fun o => o.2.1 = S ∧ o.2.2 = s) (fun α K => c_X3_differs as S s K) := by
  unfold c_X3_differs
  split
  · exact ge_cond (ge_K ⟨rfl, rfl⟩) (ge_none)
  · exact ge_none
theorem ge_X3_differingLessons (as : List Value) (S : ga_S) (s : ga_M) : ge_N (fun o => o.2.1 = S ∧ o.2.2 = s) (fun α K => c_X3_differingLessons as S s K) := by
  unfold c_X3_differingLessons
  split
  · exact ge_cond (ge_bind (fun _ => ge_K ⟨rfl, rfl⟩)) (ge_none)
  · exact ge_none
theorem ge_X11_reset (as : List Value) (S : ga_S) (s : ga_M) : ge_N (fun o => o.2.1 = S) (fun α K => c_X11_reset as S s K) := by
  unfold c_X11_reset
  split
  · exact ge_cond (ge_bind (fun _ => ge_K rfl)) (ge_none)
  · exact ge_none
theorem ge_X12_differs (as : List Value) (S : ga_S) (s : ga_M) : ge_N (fun o => o.2.1 = S ∧ o.2.2 = s) (fun α K => c_X12_differs as S s K) := by
  unfold c_X12_differs
  split
  · exact ge_cond (ge_bind (fun _ => ge_K ⟨rfl, rfl⟩)) (ge_none)
  · exact ge_none
theorem ge_X12_differences (as : List Value) (S : ga_S) (s : ga_M) : ge_N (fun o => o.2.1 = S ∧ o.2.2 = s) (fun α K => c_X12_differences as S s K) := by
  unfold c_X12_differences
  split
  · exact ge_cond (ge_bind (fun _ => ge_K ⟨rfl, rfl⟩)) (ge_none)
  · exact ge_none
theorem ge_X12_reset (as : List Value) (S : ga_S) (s : ga_M) : ge_N (fun o => o.2.1 = S) (fun α K => c_X12_reset as S s K) := by
  unfold c_X12_reset
  split
  · exact ge_cond (ge_bind (fun _ => ge_K rfl)) (ge_none)
  · exact ge_none
theorem ge_X11_whyNotCover (as : List Value) (S : ga_S) (s : ga_M) : ge_N (fun o => o.2.1 = S ∧ o.2.2 = s) (fun α K => c_X11_whyNotCover as S s K) := by
  unfold c_X11_whyNotCover
  split
  · exact ge_cond (ge_bind (fun q => ge_elimS (x := q) (fun _ => ge_K ⟨rfl, rfl⟩) (fun _ => ge_K ⟨rfl, rfl⟩))) (ge_none)
  · exact ge_none
theorem ge_X12_whyNotCover (as : List Value) (S : ga_S) (s : ga_M) : ge_N (fun o => o.2.1 = S) (fun α K => c_X12_whyNotCover as S s K) := by
  unfold c_X12_whyNotCover
  split
  · exact ge_cond (ge_bind (fun _ => ge_K rfl)) (ge_none)
  · exact ge_none
theorem ge_X11_whyNotSupervise (as : List Value) (S : ga_S) (s : ga_M) : ge_N (fun o => o.2.1 = S ∧ o.2.2 = s) (fun α K => c_X11_whyNotSupervise as S s K) := by
  unfold c_X11_whyNotSupervise
  split
  · exact ge_cond (ge_bind (fun q => ge_elimS (x := q) (fun _ => ge_K ⟨rfl, rfl⟩) (fun _ => ge_K ⟨rfl, rfl⟩))) (ge_none)
  · exact ge_none
theorem ge_X12_whyNotSupervise (as : List Value) (S : ga_S) (s : ga_M) : ge_N (fun o => o.2.1 = S) (fun α K => c_X12_whyNotSupervise as S s K) := by
  unfold c_X12_whyNotSupervise
  split
  · exact ge_cond (ge_bind (fun _ => ge_K rfl)) (ge_none)
  · exact ge_none
theorem ge_X11_whyNotExchange (as : List Value) (S : ga_S) (s : ga_M) : ge_N (fun o => o.2.1 = S ∧ o.2.2 = s) (fun α K => c_X11_whyNotExchange as S s K) := by
  unfold c_X11_whyNotExchange
  split
  · exact ge_cond (ge_bind (fun q => ge_elimS (x := q) (fun _ => ge_K ⟨rfl, rfl⟩) (fun _ => ge_K ⟨rfl, rfl⟩))) (ge_none)
  · exact ge_none
theorem ge_X12_whyNotExchange (as : List Value) (S : ga_S) (s : ga_M) : ge_N (fun o => o.2.1 = S) (fun α K => c_X12_whyNotExchange as S s K) := by
  unfold c_X12_whyNotExchange
  split
  · exact ge_cond (ge_bind (fun _ => ge_K rfl)) (ge_none)
  · exact ge_none
theorem ge_X11_whyNotMove (as : List Value) (S : ga_S) (s : ga_M) : ge_N (fun o => o.2.1 = S ∧ o.2.2 = s) (fun α K => c_X11_whyNotMove as S s K) := by
  unfold c_X11_whyNotMove
  split
  · exact ge_cond (ge_bind (fun q => ge_elimS (x := q) (fun _ => ge_K ⟨rfl, rfl⟩) (fun _ => ge_K ⟨rfl, rfl⟩))) (ge_none)
  · exact ge_none
theorem ge_X12_whyNotMove (as : List Value) (S : ga_S) (s : ga_M) : ge_N (fun o => o.2.1 = S) (fun α K => c_X12_whyNotMove as S s K) := by
  unfold c_X12_whyNotMove
  split
  · exact ge_cond (ge_bind (fun _ => ge_K rfl)) (ge_none)
  · exact ge_none
theorem ge_X11_whyNotRoom (as : List Value) (S : ga_S) (s : ga_M) : ge_N (fun o => o.2.1 = S ∧ o.2.2 = s) (fun α K => c_X11_whyNotRoom as S s K) := by
  unfold c_X11_whyNotRoom
  split
  · exact ge_cond (ge_bind (fun q => ge_elimS (x := q) (fun _ => ge_K ⟨rfl, rfl⟩) (fun _ => ge_K ⟨rfl, rfl⟩))) (ge_none)
  · exact ge_none
theorem ge_X12_whyNotRoom (as : List Value) (S : ga_S) (s : ga_M) : ge_N (fun o => o.2.1 = S) (fun α K => c_X12_whyNotRoom as S s K) := by
  unfold c_X12_whyNotRoom
  split
  · exact ge_cond (ge_bind (fun _ => ge_K rfl)) (ge_none)
  · exact ge_none
theorem ge_X11_candidates (as : List Value) (S : ga_S) (s : ga_M) : ge_N (fun o => o.2.1 = S ∧ o.2.2 = s) (fun α K => c_X11_candidates as S s K) := by
  unfold c_X11_candidates
  split
  · exact ge_cond (ge_bind (fun q => ge_elimS (x := q) (fun _ => ge_K ⟨rfl, rfl⟩) (fun _ => ge_K ⟨rfl, rfl⟩))) (ge_none)
  · exact ge_none
theorem ge_X12_candidates (as : List Value) (S : ga_S) (s : ga_M) : ge_N (fun o => o.2.1 = S) (fun α K => c_X12_candidates as S s K) := by
  unfold c_X12_candidates
  split
  · exact ge_cond (ge_bind (fun _ => ge_K rfl)) (ge_none)
  · exact ge_none
theorem ge_X11_chain (as : List Value) (S : ga_S) (s : ga_M) : ge_N (fun o => o.2.1 = S) (fun α K => c_X11_chain as S s K) := by
  unfold c_X11_chain
  split
  · exact ge_cond (ge_bind (fun q => ge_elimS (x := q.1) (fun _ => ge_K rfl) (fun _ => ge_K rfl))) (ge_none)
  · exact ge_none
theorem ge_X12_chain (as : List Value) (S : ga_S) (s : ga_M) : ge_N (fun o => o.2.1 = S) (fun α K => c_X12_chain as S s K) := by
  unfold c_X12_chain
  split
  · exact ge_cond (ge_bind (fun _ => ge_K rfl)) (ge_none)
  · exact ge_none
theorem ge_X11_chainTeacher (as : List Value) (S : ga_S) (s : ga_M) : ge_N (fun o => o.2.1 = S) (fun α K => c_X11_chainTeacher as S s K) := by
  unfold c_X11_chainTeacher
  split
  · exact ge_cond (ge_bind (fun q => ge_elimS (x := q.1) (fun _ => ge_K rfl) (fun _ => ge_K rfl))) (ge_none)
  · exact ge_none
theorem ge_X12_chainTeacher (as : List Value) (S : ga_S) (s : ga_M) : ge_N (fun o => o.2.1 = S) (fun α K => c_X12_chainTeacher as S s K) := by
  unfold c_X12_chainTeacher
  split
  · exact ge_cond (ge_bind (fun _ => ge_K rfl)) (ge_none)
  · exact ge_none
theorem ge_X11_partners (as : List Value) (S : ga_S) (s : ga_M) : ge_N (fun o => o.2.1 = S ∧ o.2.2 = s) (fun α K => c_X11_partners as S s K) := by
  unfold c_X11_partners
  split
  · exact ge_cond (ge_bind (fun q => ge_elimS (x := q) (fun _ => ge_K ⟨rfl, rfl⟩) (fun _ => ge_K ⟨rfl, rfl⟩))) (ge_none)
  · exact ge_none
theorem ge_X12_partnerOf (as : List Value) (S : ga_S) (s : ga_M) : ge_N (fun o => o.2.1 = S ∧ o.2.2 = s) (fun α K => c_X12_partnerOf as S s K) := by
  unfold c_X12_partnerOf
  split
  · exact ge_cond (ge_bind (fun _ => ge_K ⟨rfl, rfl⟩)) (ge_none)
  · exact ge_none
theorem ge_X12_partners (as : List Value) (S : ga_S) (s : ga_M) : ge_N (fun o => o.2.1 = S) (fun α K => c_X12_partners as S s K) := by
  unfold c_X12_partners
  split
  · exact ge_cond (ge_bind (fun _ => ge_K rfl)) (ge_none)
  · exact ge_none
theorem ge_X11_firstPartner (as : List Value) (S : ga_S) (s : ga_M) : ge_N (fun o => o.2.1 = S ∧ o.2.2 = s) (fun α K => c_X11_firstPartner as S s K) := by
  unfold c_X11_firstPartner
  split
  · exact ge_cond (ge_bind (fun q => ge_elimS (x := q) (fun _ => ge_K ⟨rfl, rfl⟩) (fun _ => ge_K ⟨rfl, rfl⟩))) (ge_none)
  · exact ge_none
theorem ge_X12_firstPartner (as : List Value) (S : ga_S) (s : ga_M) : ge_N (fun o => o.2.1 = S) (fun α K => c_X12_firstPartner as S s K) := by
  unfold c_X12_firstPartner
  split
  · exact ge_cond (ge_bind (fun _ => ge_K rfl)) (ge_none)
  · exact ge_none
theorem ge_X11_slotsFor (as : List Value) (S : ga_S) (s : ga_M) : ge_N (fun o => o.2.1 = S ∧ o.2.2 = s) (fun α K => c_X11_slotsFor as S s K) := by
  unfold c_X11_slotsFor
  split
  · exact ge_cond (ge_bind (fun q => ge_elimS (x := q) (fun _ => ge_K ⟨rfl, rfl⟩) (fun _ => ge_K ⟨rfl, rfl⟩))) (ge_none)
  · exact ge_none
theorem ge_X12_slotsFor (as : List Value) (S : ga_S) (s : ga_M) : ge_N (fun o => o.2.1 = S) (fun α K => c_X12_slotsFor as S s K) := by
  unfold c_X12_slotsFor
  split
  · exact ge_cond (ge_bind (fun _ => ge_K rfl)) (ge_none)
  · exact ge_none
theorem ge_X7_lessonsWith (as : List Value) (S : ga_S) (s : ga_M) : ge_N (fun o => o.2.1 = S ∧ o.2.2 = s) (fun α K => c_X7_lessonsWith as S s K) := by
  unfold c_X7_lessonsWith
  split
  · exact ge_cond (ge_bind (fun _ => ge_K ⟨rfl, rfl⟩)) (ge_cond (ge_bind (fun _ => ge_K ⟨rfl, rfl⟩)) (ge_cond (ge_bind (fun _ => ge_K ⟨rfl, rfl⟩)) (ge_cond (ge_bind (fun _ => ge_K ⟨rfl, rfl⟩)) (ge_cond (ge_bind (fun _ => ge_K ⟨rfl, rfl⟩)) (ge_none)))))
  · exact ge_none
theorem ge_X3_supervisedLessons (as : List Value) (S : ga_S) (s : ga_M) : ge_N (fun o => o.2.1 = S ∧ o.2.2 = s) (fun α K => c_X3_supervisedLessons as S s K) := by
  unfold c_X3_supervisedLessons
  split
  · exact ge_cond (ge_bind (fun _ => ge_K ⟨rfl, rfl⟩)) (ge_none)
  · exact ge_none
theorem ge_X3_openLessons (as : List Value) (S : ga_S) (s : ga_M) : ge_N (fun o => o.2.1 = S ∧ o.2.2 = s) (fun α K => c_X3_openLessons as S s K) := by
  unfold c_X3_openLessons
  split
  · exact ge_cond (ge_bind (fun _ => ge_K ⟨rfl, rfl⟩)) (ge_none)
  · exact ge_none
theorem ge_X11_count (as : List Value) (S : ga_S) (s : ga_M) : ge_N (fun o => o.2.1 = S ∧ o.2.2 = s) (fun α K => c_X11_count as S s K) := by
  unfold c_X11_count
  split
  · exact ge_cond (ge_bind (fun q => ge_elimS (x := q) (fun _ => ge_K ⟨rfl, rfl⟩) (fun _ => ge_K ⟨rfl, rfl⟩))) (ge_none)
  · exact ge_none
theorem ge_X12_watchedMany (as : List Value) (S : ga_S) (s : ga_M) : ge_N (fun o => o.2.1 = S ∧ o.2.2 = s) (fun α K => c_X12_watchedMany as S s K) := by
  unfold c_X12_watchedMany
  split
  · exact ge_cond (ge_bind (fun _ => ge_K ⟨rfl, rfl⟩)) (ge_none)
  · exact ge_none
theorem ge_X12_openMany (as : List Value) (S : ga_S) (s : ga_M) : ge_N (fun o => o.2.1 = S ∧ o.2.2 = s) (fun α K => c_X12_openMany as S s K) := by
  unfold c_X12_openMany
  split
  · exact ge_cond (ge_bind (fun _ => ge_K ⟨rfl, rfl⟩)) (ge_none)
  · exact ge_none
theorem ge_X12_count (as : List Value) (S : ga_S) (s : ga_M) : ge_N (fun o => o.2.1 = S) (fun α K => c_X12_count as S s K) := by
  unfold c_X12_count
  split
  · exact ge_cond (ge_bind (fun _ => ge_K rfl)) (ge_none)
  · exact ge_none
theorem ge_X11_lesson (as : List Value) (S : ga_S) (s : ga_M) : ge_N (fun o => o.2.1 = S ∧ o.2.2 = s) (fun α K => c_X11_lesson as S s K) := by
  unfold c_X11_lesson
  split
  · exact ge_cond (ge_bind (fun q => ge_elimS (x := q) (fun _ => ge_K ⟨rfl, rfl⟩) (fun _ => ge_K ⟨rfl, rfl⟩))) (ge_none)
  · exact ge_none
theorem ge_X12_lesson (as : List Value) (S : ga_S) (s : ga_M) : ge_N (fun o => o.2.1 = S) (fun α K => c_X12_lesson as S s K) := by
  unfold c_X12_lesson
  split
  · exact ge_cond (ge_bind (fun _ => ge_K rfl)) (ge_none)
  · exact ge_none
theorem ge_X3_taughtBy (as : List Value) (S : ga_S) (s : ga_M) : ge_N (fun o => o.2.1 = S ∧ o.2.2 = s) (fun α K => c_X3_taughtBy as S s K) := by
  unfold c_X3_taughtBy
  split
  · exact ge_cond (ge_bind (fun _ => ge_K ⟨rfl, rfl⟩)) (ge_none)
  · exact ge_none
theorem ge_X11_teacher (as : List Value) (S : ga_S) (s : ga_M) : ge_N (fun o => o.2.1 = S ∧ o.2.2 = s) (fun α K => c_X11_teacher as S s K) := by
  unfold c_X11_teacher
  split
  · exact ge_cond (ge_bind (fun q => ge_elimS (x := q) (fun _ => ge_K ⟨rfl, rfl⟩) (fun _ => ge_K ⟨rfl, rfl⟩))) (ge_none)
  · exact ge_none
theorem ge_X12_teacher (as : List Value) (S : ga_S) (s : ga_M) : ge_N (fun o => o.2.1 = S) (fun α K => c_X12_teacher as S s K) := by
  unfold c_X12_teacher
  split
  · exact ge_cond (ge_bind (fun _ => ge_K rfl)) (ge_none)
  · exact ge_none
theorem ge_X11_room (as : List Value) (S : ga_S) (s : ga_M) : ge_N (fun o => o.2.1 = S ∧ o.2.2 = s) (fun α K => c_X11_room as S s K) := by
  unfold c_X11_room
  split
  · exact ge_cond (ge_bind (fun q => ge_elimS (x := q) (fun _ => ge_K ⟨rfl, rfl⟩) (fun _ => ge_K ⟨rfl, rfl⟩))) (ge_none)
  · exact ge_none
theorem ge_X12_room (as : List Value) (S : ga_S) (s : ga_M) : ge_N (fun o => o.2.1 = S) (fun α K => c_X12_room as S s K) := by
  unfold c_X12_room
  split
  · exact ge_cond (ge_bind (fun _ => ge_K rfl)) (ge_none)
  · exact ge_none
theorem ge_X11_subject (as : List Value) (S : ga_S) (s : ga_M) : ge_N (fun o => o.2.1 = S ∧ o.2.2 = s) (fun α K => c_X11_subject as S s K) := by
  unfold c_X11_subject
  split
  · exact ge_cond (ge_bind (fun q => ge_elimS (x := q) (fun _ => ge_K ⟨rfl, rfl⟩) (fun _ => ge_K ⟨rfl, rfl⟩))) (ge_none)
  · exact ge_none
theorem ge_X12_subject (as : List Value) (S : ga_S) (s : ga_M) : ge_N (fun o => o.2.1 = S) (fun α K => c_X12_subject as S s K) := by
  unfold c_X12_subject
  split
  · exact ge_cond (ge_bind (fun _ => ge_K rfl)) (ge_none)
  · exact ge_none
theorem ge_X11_requireClass (as : List Value) (S : ga_S) (s : ga_M) : ge_N (fun o => o.2.1 = S ∧ o.2.2 = s) (fun α K => c_X11_requireClass as S s K) := by
  unfold c_X11_requireClass
  split
  · exact ge_cond (ge_elimO (ge_K ⟨rfl, rfl⟩) (fun _ => ge_K ⟨rfl, rfl⟩)) (ge_none)
  · exact ge_none
theorem ge_X11_lessonOfClass (as : List Value) (S : ga_S) (s : ga_M) : ge_N (fun o => o.2.1 = S ∧ o.2.2 = s) (fun α K => c_X11_lessonOfClass as S s K) := by
  unfold c_X11_lessonOfClass
  split
  · exact ge_cond (ge_bind (fun q => ge_elimS (x := q) (fun _ => ge_K ⟨rfl, rfl⟩) (fun _ => ge_K ⟨rfl, rfl⟩))) (ge_none)
  · exact ge_none
theorem ge_X12_isClass (as : List Value) (S : ga_S) (s : ga_M) : ge_N (fun o => o.2.1 = S ∧ o.2.2 = s) (fun α K => c_X12_isClass as S s K) := by
  unfold c_X12_isClass
  split
  · exact ge_cond (ge_K ⟨rfl, rfl⟩) (ge_none)
  · exact ge_none
theorem ge_X12_lessonOfClass (as : List Value) (S : ga_S) (s : ga_M) : ge_N (fun o => o.2.1 = S) (fun α K => c_X12_lessonOfClass as S s K) := by
  unfold c_X12_lessonOfClass
  split
  · exact ge_cond (ge_bind (fun _ => ge_K rfl)) (ge_none)
  · exact ge_none
theorem ge_X11_lessonOfTeacher (as : List Value) (S : ga_S) (s : ga_M) : ge_N (fun o => o.2.1 = S ∧ o.2.2 = s) (fun α K => c_X11_lessonOfTeacher as S s K) := by
  unfold c_X11_lessonOfTeacher
  split
  · exact ge_cond (ge_bind (fun q => ge_elimS (x := q) (fun _ => ge_K ⟨rfl, rfl⟩) (fun _ => ge_K ⟨rfl, rfl⟩))) (ge_none)
  · exact ge_none
theorem ge_X12_lessonOfTeacher (as : List Value) (S : ga_S) (s : ga_M) : ge_N (fun o => o.2.1 = S) (fun α K => c_X12_lessonOfTeacher as S s K) := by
  unfold c_X12_lessonOfTeacher
  split
  · exact ge_cond (ge_bind (fun _ => ge_K rfl)) (ge_none)
  · exact ge_none
theorem ge_X11_lessonInRoom (as : List Value) (S : ga_S) (s : ga_M) : ge_N (fun o => o.2.1 = S ∧ o.2.2 = s) (fun α K => c_X11_lessonInRoom as S s K) := by
  unfold c_X11_lessonInRoom
  split
  · exact ge_cond (ge_bind (fun q => ge_elimS (x := q) (fun _ => ge_K ⟨rfl, rfl⟩) (fun _ => ge_K ⟨rfl, rfl⟩))) (ge_none)
  · exact ge_none
theorem ge_X12_lessonInRoom (as : List Value) (S : ga_S) (s : ga_M) : ge_N (fun o => o.2.1 = S) (fun α K => c_X12_lessonInRoom as S s K) := by
  unfold c_X12_lessonInRoom
  split
  · exact ge_cond (ge_bind (fun _ => ge_K rfl)) (ge_none)
  · exact ge_none
theorem ge_X11_freeTeachers (as : List Value) (S : ga_S) (s : ga_M) : ge_N (fun o => o.2.1 = S ∧ o.2.2 = s) (fun α K => c_X11_freeTeachers as S s K) := by
  unfold c_X11_freeTeachers
  split
  · exact ge_cond (ge_bind (fun q => ge_elimS (x := q) (fun _ => ge_K ⟨rfl, rfl⟩) (fun _ => ge_K ⟨rfl, rfl⟩))) (ge_none)
  · exact ge_none
theorem ge_X12_freeTeachers (as : List Value) (S : ga_S) (s : ga_M) : ge_N (fun o => o.2.1 = S) (fun α K => c_X12_freeTeachers as S s K) := by
  unfold c_X12_freeTeachers
  split
  · exact ge_cond (ge_bind (fun _ => ge_K rfl)) (ge_none)
  · exact ge_none
theorem ge_X11_freeRooms (as : List Value) (S : ga_S) (s : ga_M) : ge_N (fun o => o.2.1 = S ∧ o.2.2 = s) (fun α K => c_X11_freeRooms as S s K) := by
  unfold c_X11_freeRooms
  split
  · exact ge_cond (ge_bind (fun q => ge_elimS (x := q) (fun _ => ge_K ⟨rfl, rfl⟩) (fun _ => ge_K ⟨rfl, rfl⟩))) (ge_none)
  · exact ge_none
theorem ge_X12_freeRooms (as : List Value) (S : ga_S) (s : ga_M) : ge_N (fun o => o.2.1 = S) (fun α K => c_X12_freeRooms as S s K) := by
  unfold c_X12_freeRooms
  split
  · exact ge_cond (ge_bind (fun _ => ge_K rfl)) (ge_none)
  · exact ge_none
theorem ge_X11_openLesson (as : List Value) (S : ga_S) (s : ga_M) : ge_N (fun o => o.2.1 = S ∧ o.2.2 = s) (fun α K => c_X11_openLesson as S s K) := by
  unfold c_X11_openLesson
  split
  · exact ge_cond (ge_bind (fun q => ge_elimS (x := q) (fun _ => ge_K ⟨rfl, rfl⟩) (fun _ => ge_K ⟨rfl, rfl⟩))) (ge_none)
  · exact ge_none
theorem ge_X12_lessonAt (as : List Value) (S : ga_S) (s : ga_M) : ge_N (fun o => o.2.1 = S ∧ o.2.2 = s) (fun α K => c_X12_lessonAt as S s K) := by
  unfold c_X12_lessonAt
  split
  · exact ge_cond (ge_bind (fun _ => ge_K ⟨rfl, rfl⟩)) (ge_none)
  · exact ge_none
theorem ge_X12_openLesson (as : List Value) (S : ga_S) (s : ga_M) : ge_N (fun o => o.2.1 = S) (fun α K => c_X12_openLesson as S s K) := by
  unfold c_X12_openLesson
  split
  · exact ge_cond (ge_bind (fun _ => ge_K rfl)) (ge_none)
  · exact ge_none
theorem ge_X11_difference (as : List Value) (S : ga_S) (s : ga_M) : ge_N (fun o => o.2.1 = S ∧ o.2.2 = s) (fun α K => c_X11_difference as S s K) := by
  unfold c_X11_difference
  split
  · exact ge_cond (ge_bind (fun q => ge_elimS (x := q) (fun _ => ge_K ⟨rfl, rfl⟩) (fun _ => ge_K ⟨rfl, rfl⟩))) (ge_none)
  · exact ge_none
theorem ge_X12_difference (as : List Value) (S : ga_S) (s : ga_M) : ge_N (fun o => o.2.1 = S) (fun α K => c_X12_difference as S s K) := by
  unfold c_X12_difference
  split
  · exact ge_cond (ge_bind (fun _ => ge_K rfl)) (ge_none)
  · exact ge_none
theorem ge_X3_windowsOf (as : List Value) (S : ga_S) (s : ga_M) : ge_N (fun o => o.2.1 = S ∧ o.2.2 = s) (fun α K => c_X3_windowsOf as S s K) := by
  unfold c_X3_windowsOf
  split
  · exact ge_cond (ge_bind (fun _ => ge_K ⟨rfl, rfl⟩)) (ge_cond (ge_bind (fun _ => ge_K ⟨rfl, rfl⟩)) (ge_none))
  · exact ge_none
theorem ge_X11_windows (as : List Value) (S : ga_S) (s : ga_M) : ge_N (fun o => o.2.1 = S ∧ o.2.2 = s) (fun α K => c_X11_windows as S s K) := by
  unfold c_X11_windows
  split
  · exact ge_cond (ge_bind (fun q => ge_elimS (x := q) (fun _ => ge_K ⟨rfl, rfl⟩) (fun _ => ge_K ⟨rfl, rfl⟩))) (ge_none)
  · exact ge_none
theorem ge_X12_gapsIn (as : List Value) (S : ga_S) (s : ga_M) : ge_N (fun o => o.2.1 = S ∧ o.2.2 = s) (fun α K => c_X12_gapsIn as S s K) := by
  unfold c_X12_gapsIn
  split
  · exact ge_cond (ge_bind (fun _ => ge_K ⟨rfl, rfl⟩)) (ge_none)
  · exact ge_none
theorem ge_X12_windows (as : List Value) (S : ga_S) (s : ga_M) : ge_N (fun o => o.2.1 = S) (fun α K => c_X12_windows as S s K) := by
  unfold c_X12_windows
  split
  · exact ge_cond (ge_bind (fun _ => ge_K rfl)) (ge_none)
  · exact ge_none
theorem ge_X11_classWindows (as : List Value) (S : ga_S) (s : ga_M) : ge_N (fun o => o.2.1 = S ∧ o.2.2 = s) (fun α K => c_X11_classWindows as S s K) := by
  unfold c_X11_classWindows
  split
  · exact ge_cond (ge_bind (fun q => ge_elimS (x := q) (fun _ => ge_K ⟨rfl, rfl⟩) (fun _ => ge_K ⟨rfl, rfl⟩))) (ge_none)
  · exact ge_none
theorem ge_X12_classWindows (as : List Value) (S : ga_S) (s : ga_M) : ge_N (fun o => o.2.1 = S) (fun α K => c_X12_classWindows as S s K) := by
  unfold c_X12_classWindows
  split
  · exact ge_cond (ge_bind (fun _ => ge_K rfl)) (ge_none)
  · exact ge_none
theorem ge_J9_max_7cf53 (as : List Value) (S : ga_S) (s : ga_M) : ge_N (fun o => o.2.1 = S ∧ o.2.2 = s) (fun α K => c_J9_max_7cf53 as S s K) := by
  unfold c_J9_max_7cf53
  split
  · exact ge_K ⟨rfl, rfl⟩
  · exact ge_none
theorem ge_X11_spread (as : List Value) (S : ga_S) (s : ga_M) : ge_N (fun o => o.2.1 = S ∧ o.2.2 = s) (fun α K => c_X11_spread as S s K) := by
  unfold c_X11_spread
  split
  · exact ge_cond (ge_bind (fun _ => ge_K ⟨rfl, rfl⟩)) (ge_none)
  · exact ge_none
theorem ge_X12_spread (as : List Value) (S : ga_S) (s : ga_M) : ge_N (fun o => o.2.1 = S) (fun α K => c_X12_spread as S s K) := by
  unfold c_X12_spread
  split
  · exact ge_cond (ge_bind (fun _ => ge_K rfl)) (ge_none)
  · exact ge_none
theorem ge_X3_taughtLessons (as : List Value) (S : ga_S) (s : ga_M) : ge_N (fun o => o.2.1 = S ∧ o.2.2 = s) (fun α K => c_X3_taughtLessons as S s K) := by
  unfold c_X3_taughtLessons
  split
  · exact ge_cond (ge_bind (fun _ => ge_K ⟨rfl, rfl⟩)) (ge_none)
  · exact ge_none
theorem ge_X11_taughtShare (as : List Value) (S : ga_S) (s : ga_M) : ge_N (fun o => o.2.1 = S ∧ o.2.2 = s) (fun α K => c_X11_taughtShare as S s K) := by
  unfold c_X11_taughtShare
  split
  · exact ge_cond (ge_bind (fun _ => ge_K ⟨rfl, rfl⟩)) (ge_none)
  · exact ge_none
theorem ge_X12_taughtShare (as : List Value) (S : ga_S) (s : ga_M) : ge_N (fun o => o.2.1 = S) (fun α K => c_X12_taughtShare as S s K) := by
  unfold c_X12_taughtShare
  split
  · exact ge_cond (ge_bind (fun _ => ge_K rfl)) (ge_none)
  · exact ge_none
theorem ge_X5_append (as : List Value) (S : ga_S) (s : ga_M) : ge_N (fun o => o.2.1 = S) (fun α K => c_X5_append as S s K) := by
  unfold c_X5_append
  split
  · exact ge_cond (ge_K rfl) (ge_none)
  · exact ge_none
theorem ge_X5_writeLesson (as : List Value) (S : ga_S) (s : ga_M) : ge_N (fun o => o.2.1 = S) (fun α K => c_X5_writeLesson as S s K) := by
  unfold c_X5_writeLesson
  split
  · exact ge_cond (ge_K rfl) (ge_none)
  · exact ge_none
theorem ge_X5_write (as : List Value) (S : ga_S) (s : ga_M) : ge_N (fun o => o.2.1 = S) (fun α K => c_X5_write as S s K) := by
  unfold c_X5_write
  split
  · exact ge_cond (ge_bind (fun _ => ge_K rfl)) (ge_none)
  · exact ge_none
theorem ge_X11_writeReport (as : List Value) (S : ga_S) (s : ga_M) : ge_N (fun o => o.2.1 = S) (fun α K => c_X11_writeReport as S s K) := by
  unfold c_X11_writeReport
  split
  · exact ge_cond (ge_bind (fun q => ge_elimS (x := q.1) (fun _ => ge_K rfl) (fun _ => ge_K rfl))) (ge_none)
  · exact ge_none
theorem ge_X12_print (as : List Value) (S : ga_S) (s : ga_M) : ge_N (fun o => o.2.1 = S) (fun α K => c_X12_print as S s K) := by
  unfold c_X12_print
  split
  · exact ge_cond (ge_bind (fun _ => ge_K rfl)) (ge_none)
  · exact ge_none
theorem ge_X12_printLesson (as : List Value) (S : ga_S) (s : ga_M) : ge_N (fun o => o.2.1 = S) (fun α K => c_X12_printLesson as S s K) := by
  unfold c_X12_printLesson
  split
  · exact ge_cond (ge_bind (fun _ => ge_K rfl)) (ge_none)
  · exact ge_none
theorem ge_X12_writeReport (as : List Value) (S : ga_S) (s : ga_M) : ge_N (fun o => o.2.1 = S) (fun α K => c_X12_writeReport as S s K) := by
  unfold c_X12_writeReport
  split
  · exact ge_cond (ge_bind (fun _ => ge_K rfl)) (ge_none)
  · exact ge_none
theorem ge_X11_reportByte (as : List Value) (S : ga_S) (s : ga_M) : ge_N (fun o => o.2.1 = S ∧ o.2.2 = s) (fun α K => c_X11_reportByte as S s K) := by
  unfold c_X11_reportByte
  split
  · exact ge_cond (ge_elimS (fun _ => ge_K ⟨rfl, rfl⟩) (fun _ => ge_K ⟨rfl, rfl⟩)) (ge_none)
  · exact ge_none
theorem ge_X12_reportByte (as : List Value) (S : ga_S) (s : ga_M) : ge_N (fun o => o.2.1 = S) (fun α K => c_X12_reportByte as S s K) := by
  unfold c_X12_reportByte
  split
  · exact ge_cond (ge_bind (fun _ => ge_K rfl)) (ge_none)
  · exact ge_none
theorem ge_X1_restoreLatest (as : List Value) (S : ga_S) (s : ga_M) : ge_N (fun o => o.2.1 = S) (fun α K => c_X1_restoreLatest as S s K) := by
  unfold c_X1_restoreLatest
  split
  · exact ge_cond (ge_bind (fun _ => ge_K rfl)) (ge_none)
  · exact ge_none
theorem ge_X11_undo (as : List Value) (S : ga_S) (s : ga_M) : ge_N (fun o => o.2.1 = S) (fun α K => c_X11_undo as S s K) := by
  unfold c_X11_undo
  split
  · exact ge_cond (ge_bind (fun q => ge_elimS (x := q.1) (fun _ => ge_K rfl) (fun _ => ge_K rfl))) (ge_none)
  · exact ge_none
theorem ge_X12_undo (as : List Value) (S : ga_S) (s : ga_M) : ge_N (fun o => o.2.1 = S) (fun α K => c_X12_undo as S s K) := by
  unfold c_X12_undo
  split
  · exact ge_cond (ge_bind (fun _ => ge_K rfl)) (ge_none)
  · exact ge_none
theorem ge_X11_undoDepth (as : List Value) (S : ga_S) (s : ga_M) : ge_N (fun o => o.2.1 = S ∧ o.2.2 = s) (fun α K => c_X11_undoDepth as S s K) := by
  unfold c_X11_undoDepth
  split
  · exact ge_cond (ge_K ⟨rfl, rfl⟩) (ge_none)
  · exact ge_none
theorem ge_X12_undoDepth (as : List Value) (S : ga_S) (s : ga_M) : ge_N (fun o => o.2.1 = S) (fun α K => c_X12_undoDepth as S s K) := by
  unfold c_X12_undoDepth
  split
  · exact ge_cond (ge_K rfl) (ge_none)
  · exact ge_none
theorem ge_X12_thrown (as : List Value) (S : ga_S) (s : ga_M) : ge_N (fun o => o.2.1 = S ∧ o.2.2 = s) (fun α K => c_X12_thrown as S s K) := by
  unfold c_X12_thrown
  split
  · exact ge_cond (ge_K ⟨rfl, rfl⟩) (ge_none)
  · exact ge_none
theorem ge_X7_becomeSample (as : List Value) (S : ga_S) (s : ga_M) : ge_N (fun o => o.2.1 = S) (fun α K => c_X7_becomeSample as S s K) := by
  unfold c_X7_becomeSample
  split
  · exact ge_cond (ge_K rfl) (ge_none)
  · exact ge_none
theorem ge_L_appendText (as : List Value) (S : ga_S) (s : ga_M) : ge_N (fun o => o.2.1 = S) (fun α K => c_L_appendText as S s K) := by
  unfold c_L_appendText
  split
  · exact ge_cond (ge_bind (fun q => ge_elimS (x := q.1) (fun _ => ge_K rfl) (fun _ => ge_K rfl))) (ge_none)
  · exact ge_none
theorem ge_L_truncateText (as : List Value) (S : ga_S) (s : ga_M) : ge_N (fun o => o.2.1 = S) (fun α K => c_L_truncateText as S s K) := by
  unfold c_L_truncateText
  split
  · exact ge_cond (ge_bind (fun q => ge_elimS (x := q.1) (fun _ => ge_K rfl) (fun _ => ge_K rfl))) (ge_none)
  · exact ge_none
theorem ge_L_setAbsent (as : List Value) (S : ga_S) (s : ga_M) : ge_N (fun o => o.2.1 = S) (fun α K => c_L_setAbsent as S s K) := by
  unfold c_L_setAbsent
  split
  · exact ge_cond (ge_bind (fun q => ge_elimS (x := q.1) (fun _ => ge_K rfl) (fun _ => ge_K rfl))) (ge_none)
  · exact ge_none
theorem ge_L_cover (as : List Value) (S : ga_S) (s : ga_M) : ge_N (fun o => o.2.1 = S) (fun α K => c_L_cover as S s K) := by
  unfold c_L_cover
  split
  · exact ge_cond (ge_bind (fun q => ge_elimS (x := q.1) (fun _ => ge_K rfl) (fun _ => ge_K rfl))) (ge_none)
  · exact ge_none
theorem ge_L_supervise (as : List Value) (S : ga_S) (s : ga_M) : ge_N (fun o => o.2.1 = S) (fun α K => c_L_supervise as S s K) := by
  unfold c_L_supervise
  split
  · exact ge_cond (ge_bind (fun q => ge_elimS (x := q.1) (fun _ => ge_K rfl) (fun _ => ge_K rfl))) (ge_none)
  · exact ge_none
theorem ge_L_repair (as : List Value) (S : ga_S) (s : ga_M) : ge_N (fun o => o.2.1 = S) (fun α K => c_L_repair as S s K) := by
  unfold c_L_repair
  split
  · exact ge_cond (ge_bind (fun q => ge_elimS (x := q.1) (fun _ => ge_K rfl) (fun _ => ge_K rfl))) (ge_none)
  · exact ge_none
theorem ge_L_exchange (as : List Value) (S : ga_S) (s : ga_M) : ge_N (fun o => o.2.1 = S) (fun α K => c_L_exchange as S s K) := by
  unfold c_L_exchange
  split
  · exact ge_cond (ge_bind (fun q => ge_elimS (x := q.1) (fun _ => ge_K rfl) (fun _ => ge_K rfl))) (ge_none)
  · exact ge_none
theorem ge_L_move (as : List Value) (S : ga_S) (s : ga_M) : ge_N (fun o => o.2.1 = S) (fun α K => c_L_move as S s K) := by
  unfold c_L_move
  split
  · exact ge_cond (ge_bind (fun q => ge_elimS (x := q.1) (fun _ => ge_K rfl) (fun _ => ge_K rfl))) (ge_none)
  · exact ge_none
theorem ge_L_setRoom (as : List Value) (S : ga_S) (s : ga_M) : ge_N (fun o => o.2.1 = S) (fun α K => c_L_setRoom as S s K) := by
  unfold c_L_setRoom
  split
  · exact ge_cond (ge_bind (fun q => ge_elimS (x := q.1) (fun _ => ge_K rfl) (fun _ => ge_K rfl))) (ge_none)
  · exact ge_none
theorem ge_L_reopen (as : List Value) (S : ga_S) (s : ga_M) : ge_N (fun o => o.2.1 = S) (fun α K => c_L_reopen as S s K) := by
  unfold c_L_reopen
  split
  · exact ge_cond (ge_bind (fun q => ge_elimS (x := q.1) (fun _ => ge_K rfl) (fun _ => ge_K rfl))) (ge_none)
  · exact ge_none
theorem ge_L_whyNotCover (as : List Value) (S : ga_S) (s : ga_M) : ge_N (fun o => o.2.1 = S) (fun α K => c_L_whyNotCover as S s K) := by
  unfold c_L_whyNotCover
  split
  · exact ge_cond (ge_bind (fun q => ge_elimS (x := q.1) (fun _ => ge_K rfl) (fun _ => ge_K rfl))) (ge_none)
  · exact ge_none
theorem ge_L_whyNotSupervise (as : List Value) (S : ga_S) (s : ga_M) : ge_N (fun o => o.2.1 = S) (fun α K => c_L_whyNotSupervise as S s K) := by
  unfold c_L_whyNotSupervise
  split
  · exact ge_cond (ge_bind (fun q => ge_elimS (x := q.1) (fun _ => ge_K rfl) (fun _ => ge_K rfl))) (ge_none)
  · exact ge_none
theorem ge_L_whyNotExchange (as : List Value) (S : ga_S) (s : ga_M) : ge_N (fun o => o.2.1 = S) (fun α K => c_L_whyNotExchange as S s K) := by
  unfold c_L_whyNotExchange
  split
  · exact ge_cond (ge_bind (fun q => ge_elimS (x := q.1) (fun _ => ge_K rfl) (fun _ => ge_K rfl))) (ge_none)
  · exact ge_none
theorem ge_L_whyNotMove (as : List Value) (S : ga_S) (s : ga_M) : ge_N (fun o => o.2.1 = S) (fun α K => c_L_whyNotMove as S s K) := by
  unfold c_L_whyNotMove
  split
  · exact ge_cond (ge_bind (fun q => ge_elimS (x := q.1) (fun _ => ge_K rfl) (fun _ => ge_K rfl))) (ge_none)
  · exact ge_none
theorem ge_L_whyNotRoom (as : List Value) (S : ga_S) (s : ga_M) : ge_N (fun o => o.2.1 = S) (fun α K => c_L_whyNotRoom as S s K) := by
  unfold c_L_whyNotRoom
  split
  · exact ge_cond (ge_bind (fun q => ge_elimS (x := q.1) (fun _ => ge_K rfl) (fun _ => ge_K rfl))) (ge_none)
  · exact ge_none
theorem ge_L_candidates (as : List Value) (S : ga_S) (s : ga_M) : ge_N (fun o => o.2.1 = S) (fun α K => c_L_candidates as S s K) := by
  unfold c_L_candidates
  split
  · exact ge_cond (ge_bind (fun q => ge_elimS (x := q.1) (fun _ => ge_K rfl) (fun _ => ge_K rfl))) (ge_none)
  · exact ge_none
theorem ge_L_chain (as : List Value) (S : ga_S) (s : ga_M) : ge_N (fun o => o.2.1 = S) (fun α K => c_L_chain as S s K) := by
  unfold c_L_chain
  split
  · exact ge_cond (ge_bind (fun q => ge_elimS (x := q.1) (fun _ => ge_K rfl) (fun _ => ge_K rfl))) (ge_none)
  · exact ge_none
theorem ge_L_chainTeacher (as : List Value) (S : ga_S) (s : ga_M) : ge_N (fun o => o.2.1 = S) (fun α K => c_L_chainTeacher as S s K) := by
  unfold c_L_chainTeacher
  split
  · exact ge_cond (ge_bind (fun q => ge_elimS (x := q.1) (fun _ => ge_K rfl) (fun _ => ge_K rfl))) (ge_none)
  · exact ge_none
theorem ge_L_partners (as : List Value) (S : ga_S) (s : ga_M) : ge_N (fun o => o.2.1 = S) (fun α K => c_L_partners as S s K) := by
  unfold c_L_partners
  split
  · exact ge_cond (ge_bind (fun q => ge_elimS (x := q.1) (fun _ => ge_K rfl) (fun _ => ge_K rfl))) (ge_none)
  · exact ge_none
theorem ge_L_firstPartner (as : List Value) (S : ga_S) (s : ga_M) : ge_N (fun o => o.2.1 = S) (fun α K => c_L_firstPartner as S s K) := by
  unfold c_L_firstPartner
  split
  · exact ge_cond (ge_bind (fun q => ge_elimS (x := q.1) (fun _ => ge_K rfl) (fun _ => ge_K rfl))) (ge_none)
  · exact ge_none
theorem ge_L_slotsFor (as : List Value) (S : ga_S) (s : ga_M) : ge_N (fun o => o.2.1 = S) (fun α K => c_L_slotsFor as S s K) := by
  unfold c_L_slotsFor
  split
  · exact ge_cond (ge_bind (fun q => ge_elimS (x := q.1) (fun _ => ge_K rfl) (fun _ => ge_K rfl))) (ge_none)
  · exact ge_none
theorem ge_L_count (as : List Value) (S : ga_S) (s : ga_M) : ge_N (fun o => o.2.1 = S) (fun α K => c_L_count as S s K) := by
  unfold c_L_count
  split
  · exact ge_cond (ge_bind (fun q => ge_elimS (x := q.1) (fun _ => ge_K rfl) (fun _ => ge_K rfl))) (ge_none)
  · exact ge_none
theorem ge_L_lesson (as : List Value) (S : ga_S) (s : ga_M) : ge_N (fun o => o.2.1 = S) (fun α K => c_L_lesson as S s K) := by
  unfold c_L_lesson
  split
  · exact ge_cond (ge_bind (fun q => ge_elimS (x := q.1) (fun _ => ge_K rfl) (fun _ => ge_K rfl))) (ge_none)
  · exact ge_none
theorem ge_L_teacher (as : List Value) (S : ga_S) (s : ga_M) : ge_N (fun o => o.2.1 = S) (fun α K => c_L_teacher as S s K) := by
  unfold c_L_teacher
  split
  · exact ge_cond (ge_bind (fun q => ge_elimS (x := q.1) (fun _ => ge_K rfl) (fun _ => ge_K rfl))) (ge_none)
  · exact ge_none
theorem ge_L_room (as : List Value) (S : ga_S) (s : ga_M) : ge_N (fun o => o.2.1 = S) (fun α K => c_L_room as S s K) := by
  unfold c_L_room
  split
  · exact ge_cond (ge_bind (fun q => ge_elimS (x := q.1) (fun _ => ge_K rfl) (fun _ => ge_K rfl))) (ge_none)
  · exact ge_none
theorem ge_L_subject (as : List Value) (S : ga_S) (s : ga_M) : ge_N (fun o => o.2.1 = S) (fun α K => c_L_subject as S s K) := by
  unfold c_L_subject
  split
  · exact ge_cond (ge_bind (fun q => ge_elimS (x := q.1) (fun _ => ge_K rfl) (fun _ => ge_K rfl))) (ge_none)
  · exact ge_none
theorem ge_L_lessonOfClass (as : List Value) (S : ga_S) (s : ga_M) : ge_N (fun o => o.2.1 = S) (fun α K => c_L_lessonOfClass as S s K) := by
  unfold c_L_lessonOfClass
  split
  · exact ge_cond (ge_bind (fun q => ge_elimS (x := q.1) (fun _ => ge_K rfl) (fun _ => ge_K rfl))) (ge_none)
  · exact ge_none
theorem ge_L_lessonOfTeacher (as : List Value) (S : ga_S) (s : ga_M) : ge_N (fun o => o.2.1 = S) (fun α K => c_L_lessonOfTeacher as S s K) := by
  unfold c_L_lessonOfTeacher
  split
  · exact ge_cond (ge_bind (fun q => ge_elimS (x := q.1) (fun _ => ge_K rfl) (fun _ => ge_K rfl))) (ge_none)
  · exact ge_none
theorem ge_L_lessonInRoom (as : List Value) (S : ga_S) (s : ga_M) : ge_N (fun o => o.2.1 = S) (fun α K => c_L_lessonInRoom as S s K) := by
  unfold c_L_lessonInRoom
  split
  · exact ge_cond (ge_bind (fun q => ge_elimS (x := q.1) (fun _ => ge_K rfl) (fun _ => ge_K rfl))) (ge_none)
  · exact ge_none
theorem ge_L_freeTeachers (as : List Value) (S : ga_S) (s : ga_M) : ge_N (fun o => o.2.1 = S) (fun α K => c_L_freeTeachers as S s K) := by
  unfold c_L_freeTeachers
  split
  · exact ge_cond (ge_bind (fun q => ge_elimS (x := q.1) (fun _ => ge_K rfl) (fun _ => ge_K rfl))) (ge_none)
  · exact ge_none
theorem ge_L_freeRooms (as : List Value) (S : ga_S) (s : ga_M) : ge_N (fun o => o.2.1 = S) (fun α K => c_L_freeRooms as S s K) := by
  unfold c_L_freeRooms
  split
  · exact ge_cond (ge_bind (fun q => ge_elimS (x := q.1) (fun _ => ge_K rfl) (fun _ => ge_K rfl))) (ge_none)
  · exact ge_none
theorem ge_L_openLesson (as : List Value) (S : ga_S) (s : ga_M) : ge_N (fun o => o.2.1 = S) (fun α K => c_L_openLesson as S s K) := by
  unfold c_L_openLesson
  split
  · exact ge_cond (ge_bind (fun q => ge_elimS (x := q.1) (fun _ => ge_K rfl) (fun _ => ge_K rfl))) (ge_none)
  · exact ge_none
theorem ge_L_difference (as : List Value) (S : ga_S) (s : ga_M) : ge_N (fun o => o.2.1 = S) (fun α K => c_L_difference as S s K) := by
  unfold c_L_difference
  split
  · exact ge_cond (ge_bind (fun q => ge_elimS (x := q.1) (fun _ => ge_K rfl) (fun _ => ge_K rfl))) (ge_none)
  · exact ge_none
theorem ge_L_windows (as : List Value) (S : ga_S) (s : ga_M) : ge_N (fun o => o.2.1 = S) (fun α K => c_L_windows as S s K) := by
  unfold c_L_windows
  split
  · exact ge_cond (ge_bind (fun q => ge_elimS (x := q.1) (fun _ => ge_K rfl) (fun _ => ge_K rfl))) (ge_none)
  · exact ge_none
theorem ge_L_classWindows (as : List Value) (S : ga_S) (s : ga_M) : ge_N (fun o => o.2.1 = S) (fun α K => c_L_classWindows as S s K) := by
  unfold c_L_classWindows
  split
  · exact ge_cond (ge_bind (fun q => ge_elimS (x := q.1) (fun _ => ge_K rfl) (fun _ => ge_K rfl))) (ge_none)
  · exact ge_none
theorem ge_L_writeReport (as : List Value) (S : ga_S) (s : ga_M) : ge_N (fun o => o.2.1 = S) (fun α K => c_L_writeReport as S s K) := by
  unfold c_L_writeReport
  split
  · exact ge_cond (ge_bind (fun q => ge_elimS (x := q.1) (fun _ => ge_K rfl) (fun _ => ge_K rfl))) (ge_none)
  · exact ge_none
theorem ge_L_reportByte (as : List Value) (S : ga_S) (s : ga_M) : ge_N (fun o => o.2.1 = S) (fun α K => c_L_reportByte as S s K) := by
  unfold c_L_reportByte
  split
  · exact ge_cond (ge_bind (fun q => ge_elimS (x := q.1) (fun _ => ge_K rfl) (fun _ => ge_K rfl))) (ge_none)
  · exact ge_none
theorem ge_L_undo (as : List Value) (S : ga_S) (s : ga_M) : ge_N (fun o => o.2.1 = S) (fun α K => c_L_undo as S s K) := by
  unfold c_L_undo
  split
  · exact ge_cond (ge_bind (fun q => ge_elimS (x := q.1) (fun _ => ge_K rfl) (fun _ => ge_K rfl))) (ge_none)
  · exact ge_none
theorem ge_X6_at (as : List Value) (S : ga_S) (s : ga_M) : ge_N (fun o => o.2.1 = S ∧ o.2.2 = s) (fun α K => c_X6_at as S s K) := by
  unfold c_X6_at
  repeat' split
  all_goals first | exact ge_none | exact ge_K ⟨rfl, rfl⟩
theorem ge_X6_put (as : List Value) (S : ga_S) (s : ga_M) : ge_N (fun o => o.2.1 = S) (fun α K => c_X6_put as S s K) := by
  unfold c_X6_put
  repeat' split
  all_goals first | exact ge_none | exact ge_K rfl
theorem ge_X6_become (as : List Value) (S : ga_S) (s : ga_M) : ge_N (fun o => o.2.1 = S) (fun α K => c_X6_become as S s K) := by
  unfold c_X6_become
  repeat' split
  all_goals first | exact ge_none | exact ge_K rfl
theorem ge_J0_length_8abf5 (as : List Value) (S : ga_S) (s : ga_M) : ge_N (fun o => o.2.1 = S ∧ o.2.2 = s) (fun α K => c_J0_length_8abf5 as S s K) := by
  unfold c_J0_length_8abf5
  split
  · exact ge_bind (fun _ => ge_K ⟨rfl, rfl⟩)
  · exact ge_none
theorem ge_J0_charAt_5068e (as : List Value) (S : ga_S) (s : ga_M) : ge_N (fun o => o.2.1 = S ∧ o.2.2 = s) (fun α K => c_J0_charAt_5068e as S s K) := by
  unfold c_J0_charAt_5068e
  split
  · exact ge_bind (fun _ => ge_K ⟨rfl, rfl⟩)
  · exact ge_none
theorem ge_G (mid : Nat) (as : List Value) (S : ga_S) (s : ga_M) : ge_N (fun o => o.2.1 = S) (fun α K => gaG α mid as S s K) := ge_cond (ge_cond (ge_cond (ge_cond (ge_cond (ge_cond (ge_cond (ge_cond (ge_cond (ge_mono (ge_X6_at as S s) (fun _ h => h.1)) ge_none) (ge_cond (ge_X6_put as S s) ge_none)) (ge_cond (ge_cond (ge_X6_become as S s) ge_none) (ge_cond (ge_cond (ge_mono (ge_J0_length_8abf5 as S s) (fun _ h => h.1)) ge_none) (ge_cond (ge_mono (ge_J0_charAt_5068e as S s) (fun _ h => h.1)) ge_none)))) (ge_cond (ge_cond (ge_cond (ge_X10_append as S s) ge_none) (ge_cond (ge_X12_bring as S s) ge_none)) (ge_cond (ge_cond (ge_X12_no as S s) ge_none) (ge_cond (ge_cond (ge_X12_appendText as S s) ge_none) (ge_cond (ge_mono (ge_X12_in as S s) (fun _ h => h.1)) ge_none))))) (ge_cond (ge_cond (ge_cond (ge_cond (ge_X12_truncateText as S s) ge_none) (ge_cond (ge_X7_becomeEmpty as S s) ge_none)) (ge_cond (ge_cond (ge_mono (ge_X10_afterBlanks as S s) (fun _ h => h.1)) ge_none) (ge_cond (ge_cond (ge_mono (ge_X10_isLetter as S s) (fun _ h => h.1)) ge_none) (ge_cond (ge_mono (ge_X10_isDigit as S s) (fun _ h => h.1)) ge_none)))) (ge_cond (ge_cond (ge_cond (ge_mono (ge_J9_min_7cf53 as S s) (fun _ h => h.1)) ge_none) (ge_cond (ge_X10_afterDigits as S s) ge_none)) (ge_cond (ge_cond (ge_mono (ge_X10_afterLetters as S s) (fun _ h => h.1)) ge_none) (ge_cond (ge_cond (ge_X10_next as S s) ge_none) (ge_cond (ge_X10_begin as S s) ge_none)))))) (ge_cond (ge_cond (ge_cond (ge_cond (ge_cond (ge_mono (ge_X10_isWord as S s) (fun _ h => h.1)) ge_none) (ge_cond (ge_X10_fail as S s) ge_none)) (ge_cond (ge_cond (ge_X8_fail as S s) ge_none) (ge_cond (ge_cond (ge_X8_takeWord as S s) ge_none) (ge_cond (ge_X8_checkNumber as S s) ge_none)))) (ge_cond (ge_cond (ge_cond (ge_X8_takeNumber as S s) ge_none) (ge_cond (ge_X8_takeSemicolon as S s) ge_none)) (ge_cond (ge_cond (ge_X8_readGrid as S s) ge_none) (ge_cond (ge_cond (ge_X7_addSubject as S s) ge_none) (ge_cond (ge_X8_readSubjects as S s) ge_none))))) (ge_cond (ge_cond (ge_cond (ge_cond (ge_X7_addTeacher as S s) ge_none) (ge_cond (ge_mono (ge_X11_hasBit as S s) (fun _ h => h.1)) ge_none)) (ge_cond (ge_cond (ge_X8_readTeacher as S s) ge_none) (ge_cond (ge_cond (ge_X8_readTeachers as S s) ge_none) (ge_cond (ge_X7_addRoom as S s) ge_none)))) (ge_cond (ge_cond (ge_cond (ge_X8_readRooms as S s) ge_none) (ge_cond (ge_cond (ge_X8_readClasses as S s) ge_none) (ge_cond (ge_mono (ge_X7_slots as S s) (fun _ h => h.1)) ge_none))) (ge_cond (ge_cond (ge_mono (ge_X7_isTakenAtFirst as S s) (fun _ h => h.1)) ge_none) (ge_cond (ge_cond (ge_X8_checkUntaken as S s) ge_none) (ge_cond (ge_mono (ge_X7_hasTeacher as S s) (fun _ h => h.1)) ge_none))))))) (ge_cond (ge_cond (ge_cond (ge_cond (ge_cond (ge_cond (ge_mono (ge_X7_isQualified as S s) (fun _ h => h.1)) ge_none) (ge_cond (ge_X7_addLesson as S s) ge_none)) (ge_cond (ge_cond (ge_X8_readLesson as S s) ge_none) (ge_cond (ge_cond (ge_X8_readLessons as S s) ge_none) (ge_cond (ge_X8_read as S s) ge_none)))) (ge_cond (ge_cond (ge_cond (ge_X7_become as S s) ge_none) (ge_cond (ge_mono (ge_X7_dayOf as S s) (fun _ h => h.1)) ge_none)) (ge_cond (ge_cond (ge_mono (ge_X3_isAway as S s) (fun _ h => h.1)) ge_none) (ge_cond (ge_cond (ge_mono (ge_X3_isAwayAt as S s) (fun _ h => h.1)) ge_none) (ge_cond (ge_X3_returnToFirst as S s) ge_none))))) (ge_cond (ge_cond (ge_cond (ge_cond (ge_X3_begin as S s) ge_none) (ge_cond (ge_X1_forget as S s) ge_none)) (ge_cond (ge_cond (ge_X11_parseSchool as S s) ge_none) (ge_cond (ge_cond (ge_mono (ge_X12_byteAt as S s) (fun _ h => h.1)) ge_none) (ge_cond (ge_mono (ge_X12_isLetterAt as S s) (fun _ h => h.1)) ge_none)))) (ge_cond (ge_cond (ge_cond (ge_mono (ge_X12_isDigitAt as S s) (fun _ h => h.1)) ge_none) (ge_cond (ge_X12_next as S s) ge_none)) (ge_cond (ge_cond (ge_X12_begin as S s) ge_none) (ge_cond (ge_cond (ge_mono (ge_X12_isWord as S s) (fun _ h => h.1)) ge_none) (ge_cond (ge_X12_goOn as S s) ge_none)))))) (ge_cond (ge_cond (ge_cond (ge_cond (ge_cond (ge_X12_wrong as S s) ge_none) (ge_cond (ge_X12_must as S s) ge_none)) (ge_cond (ge_cond (ge_mono (ge_X12_digits as S s) (fun _ h => h.1)) ge_none) (ge_cond (ge_cond (ge_X12_see as S s) ge_none) (ge_cond (ge_X12_number as S s) ge_none)))) (ge_cond (ge_cond (ge_cond (ge_X12_opensThing as S s) ge_none) (ge_cond (ge_X12_readKinds as S s) ge_none)) (ge_cond (ge_cond (ge_mono (ge_X12_has as S s) (fun _ h => h.1)) ge_none) (ge_cond (ge_cond (ge_X12_readTeachers as S s) ge_none) (ge_cond (ge_mono (ge_X12_isThere as S s) (fun _ h => h.1)) ge_none))))) (ge_cond (ge_cond (ge_cond (ge_cond (ge_X12_readLesson as S s) ge_none) (ge_cond (ge_X12_firstly as S s) ge_none)) (ge_cond (ge_cond (ge_X12_beginAnew as S s) ge_none) (ge_cond (ge_cond (ge_X12_parseSchool as S s) ge_none) (ge_cond (ge_mono (ge_X1_baseOf as S s) (fun _ h => h.1)) ge_none)))) (ge_cond (ge_cond (ge_cond (ge_X1_mark as S s) ge_none) (ge_cond (ge_cond (ge_X1_keepMarked as S s) ge_none) (ge_cond (ge_X1_restoreMarked as S s) ge_none))) (ge_cond (ge_cond (ge_mono (ge_X9_wordOf as S s) (fun _ h => h.1)) ge_none) (ge_cond (ge_cond (ge_mono (ge_X9_findStep as S s) (fun _ h => h.1)) ge_none) (ge_cond (ge_mono (ge_X9_numbersOf as S s) (fun _ h => h.1)) ge_none)))))))) (ge_cond (ge_cond (ge_cond (ge_cond (ge_cond (ge_cond (ge_cond (ge_X9_readStep as S s) ge_none) (ge_cond (ge_mono (ge_X7_hasDay as S s) (fun _ h => h.1)) ge_none)) (ge_cond (ge_cond (ge_X3_makeOpen as S s) ge_none) (ge_cond (ge_cond (ge_X2_letBeAbsent as S s) ge_none) (ge_cond (ge_mono (ge_X7_hasLesson as S s) (fun _ h => h.1)) ge_none)))) (ge_cond (ge_cond (ge_cond (ge_mono (ge_X3_isOpen as S s) (fun _ h => h.1)) ge_none) (ge_cond (ge_X2_openAgain as S s) ge_none)) (ge_cond (ge_cond (ge_mono (ge_X0_presentAt as S s) (fun _ h => h.1)) ge_none) (ge_cond (ge_cond (ge_mono (ge_X3_isTaught as S s) (fun _ h => h.1)) ge_none) (ge_cond (ge_mono (ge_X7_qualifiedFor as S s) (fun _ h => h.1)) ge_none))))) (ge_cond (ge_cond (ge_cond (ge_cond (ge_X0_busyAt as S s) ge_none) (ge_cond (ge_mono (ge_X3_loadOf as S s) (fun _ h => h.1)) ge_none)) (ge_cond (ge_cond (ge_mono (ge_X0_leastLoaded as S s) (fun _ h => h.1)) ge_none) (ge_cond (ge_cond (ge_mono (ge_X0_successorsOf as S s) (fun _ h => h.1)) ge_none) (ge_cond (ge_mono (ge_X0_thoseBefore as S s) (fun _ h => h.1)) ge_none)))) (ge_cond (ge_cond (ge_cond (ge_mono (ge_X0_lowest as S s) (fun _ h => h.1)) ge_none) (ge_cond (ge_X0_choose as S s) ge_none)) (ge_cond (ge_cond (ge_X0_find as S s) ge_none) (ge_cond (ge_cond (ge_mono (ge_X3_lessonAt as S s) (fun _ h => h.1)) ge_none) (ge_cond (ge_X3_letTeach as S s) ge_none)))))) (ge_cond (ge_cond (ge_cond (ge_cond (ge_cond (ge_X2_repairByChain as S s) ge_none) (ge_cond (ge_mono (ge_X7_hasRoom as S s) (fun _ h => h.1)) ge_none)) (ge_cond (ge_cond (ge_mono (ge_X4_againstRoom as S s) (fun _ h => h.1)) ge_none) (ge_cond (ge_cond (ge_X2_moveToRoom as S s) ge_none) (ge_cond (ge_mono (ge_X7_hasSlot as S s) (fun _ h => h.1)) ge_none)))) (ge_cond (ge_cond (ge_cond (ge_mono (ge_X4_isBusy as S s) (fun _ h => h.1)) ge_none) (ge_cond (ge_mono (ge_X4_isTeacherAwayAt as S s) (fun _ h => h.1)) ge_none)) (ge_cond (ge_cond (ge_mono (ge_X4_againstMove as S s) (fun _ h => h.1)) ge_none) (ge_cond (ge_cond (ge_X2_moveToSlot as S s) ge_none) (ge_cond (ge_mono (ge_X4_isHeldByThird as S s) (fun _ h => h.1)) ge_none))))) (ge_cond (ge_cond (ge_cond (ge_cond (ge_mono (ge_X4_againstExchange as S s) (fun _ h => h.1)) ge_none) (ge_cond (ge_X2_swapSlots as S s) ge_none)) (ge_cond (ge_cond (ge_mono (ge_X3_isSupervised as S s) (fun _ h => h.1)) ge_none) (ge_cond (ge_cond (ge_mono (ge_X3_dutiesOn as S s) (fun _ h => h.1)) ge_none) (ge_cond (ge_mono (ge_X4_againstSupervision as S s) (fun _ h => h.1)) ge_none)))) (ge_cond (ge_cond (ge_cond (ge_X3_letWatch as S s) ge_none) (ge_cond (ge_cond (ge_X2_letSupervise as S s) ge_none) (ge_cond (ge_mono (ge_X4_againstCover as S s) (fun _ h => h.1)) ge_none))) (ge_cond (ge_cond (ge_X2_letCover as S s) ge_none) (ge_cond (ge_cond (ge_X2_repairOpenLessons as S s) ge_none) (ge_cond (ge_X2_perform as S s) ge_none))))))) (ge_cond (ge_cond (ge_cond (ge_cond (ge_cond (ge_cond (ge_X11_runScript as S s) ge_none) (ge_cond (ge_X12_copyRow as S s) ge_none)) (ge_cond (ge_cond (ge_X12_push as S s) ge_none) (ge_cond (ge_cond (ge_mono (ge_X12_stepHere as S s) (fun _ h => h.1)) ge_none) (ge_cond (ge_X12_figure as S s) ge_none)))) (ge_cond (ge_cond (ge_cond (ge_mono (ge_X12_isLesson as S s) (fun _ h => h.1)) ge_none) (ge_cond (ge_mono (ge_X12_isOpen as S s) (fun _ h => h.1)) ge_none)) (ge_cond (ge_cond (ge_mono (ge_X12_isRoom as S s) (fun _ h => h.1)) ge_none) (ge_cond (ge_cond (ge_mono (ge_X12_lessonWith as S s) (fun _ h => h.1)) ge_none) (ge_cond (ge_mono (ge_X12_reasonForRoom as S s) (fun _ h => h.1)) ge_none))))) (ge_cond (ge_cond (ge_cond (ge_cond (ge_mono (ge_X12_slots as S s) (fun _ h => h.1)) ge_none) (ge_cond (ge_mono (ge_X12_isSlot as S s) (fun _ h => h.1)) ge_none)) (ge_cond (ge_cond (ge_mono (ge_X12_ofClass as S s) (fun _ h => h.1)) ge_none) (ge_cond (ge_cond (ge_mono (ge_X12_ofTeacher as S s) (fun _ h => h.1)) ge_none) (ge_cond (ge_mono (ge_X12_dayOf as S s) (fun _ h => h.1)) ge_none)))) (ge_cond (ge_cond (ge_cond (ge_mono (ge_X12_isAbsent as S s) (fun _ h => h.1)) ge_none) (ge_cond (ge_mono (ge_X12_reasonToMove as S s) (fun _ h => h.1)) ge_none)) (ge_cond (ge_cond (ge_mono (ge_X12_isElsewhere as S s) (fun _ h => h.1)) ge_none) (ge_cond (ge_cond (ge_mono (ge_X12_reasonToExchange as S s) (fun _ h => h.1)) ge_none) (ge_cond (ge_mono (ge_X12_isQualified as S s) (fun _ h => h.1)) ge_none)))))) (ge_cond (ge_cond (ge_cond (ge_cond (ge_cond (ge_mono (ge_X12_isOnWay as S s) (fun _ h => h.1)) ge_none) (ge_cond (ge_mono (ge_X12_isTaught as S s) (fun _ h => h.1)) ge_none)) (ge_cond (ge_cond (ge_mono (ge_X12_taughtBy as S s) (fun _ h => h.1)) ge_none) (ge_cond (ge_cond (ge_mono (ge_X12_firstBy as S s) (fun _ h => h.1)) ge_none) (ge_cond (ge_mono (ge_X12_loadOf as S s) (fun _ h => h.1)) ge_none)))) (ge_cond (ge_cond (ge_cond (ge_X12_goes3 as S s) ge_none) (ge_cond (ge_X12_goes2 as S s) ge_none)) (ge_cond (ge_cond (ge_X12_goes1 as S s) ge_none) (ge_cond (ge_cond (ge_X12_goes0 as S s) ge_none) (ge_cond (ge_X12_findChain as S s) ge_none))))) (ge_cond (ge_cond (ge_cond (ge_cond (ge_mono (ge_X12_isTeacher as S s) (fun _ h => h.1)) ge_none) (ge_cond (ge_mono (ge_X12_dutiesOf as S s) (fun _ h => h.1)) ge_none)) (ge_cond (ge_cond (ge_mono (ge_X12_reasonToWatch as S s) (fun _ h => h.1)) ge_none) (ge_cond (ge_cond (ge_mono (ge_X12_reasonToCover as S s) (fun _ h => h.1)) ge_none) (ge_cond (ge_mono (ge_X12_isDay as S s) (fun _ h => h.1)) ge_none)))) (ge_cond (ge_cond (ge_cond (ge_X12_canStep as S s) ge_none) (ge_cond (ge_cond (ge_X12_opens as S s) ge_none) (ge_cond (ge_X12_swaps as S s) ge_none))) (ge_cond (ge_cond (ge_X12_chains as S s) ge_none) (ge_cond (ge_cond (ge_X12_repairsAll as S s) ge_none) (ge_cond (ge_X12_gives as S s) ge_none))))))))) (ge_cond (ge_cond (ge_cond (ge_cond (ge_cond (ge_cond (ge_cond (ge_cond (ge_X12_absents as S s) ge_none) (ge_cond (ge_X12_doStep as S s) ge_none)) (ge_cond (ge_cond (ge_X12_goesThrough as S s) ge_none) (ge_cond (ge_cond (ge_X12_runScript as S s) ge_none) (ge_cond (ge_mono (ge_X11_errorCode as S s) (fun _ h => h.1)) ge_none)))) (ge_cond (ge_cond (ge_cond (ge_X12_errorCode as S s) ge_none) (ge_cond (ge_mono (ge_X11_errorPosition as S s) (fun _ h => h.1)) ge_none)) (ge_cond (ge_cond (ge_X12_errorPosition as S s) ge_none) (ge_cond (ge_cond (ge_X12_fails as S s) ge_none) (ge_cond (ge_X12_remember as S s) ge_none))))) (ge_cond (ge_cond (ge_cond (ge_cond (ge_X12_setAbsent as S s) ge_none) (ge_cond (ge_X12_cover as S s) ge_none)) (ge_cond (ge_cond (ge_mono (ge_X3_dutiesOf as S s) (fun _ h => h.1)) ge_none) (ge_cond (ge_cond (ge_X12_supervise as S s) ge_none) (ge_cond (ge_X12_repair as S s) ge_none)))) (ge_cond (ge_cond (ge_cond (ge_X11_repairAll as S s) ge_none) (ge_cond (ge_X12_repairAll as S s) ge_none)) (ge_cond (ge_cond (ge_X12_exchange as S s) ge_none) (ge_cond (ge_cond (ge_X12_move as S s) ge_none) (ge_cond (ge_X12_setRoom as S s) ge_none)))))) (ge_cond (ge_cond (ge_cond (ge_cond (ge_cond (ge_X12_reopen as S s) ge_none) (ge_cond (ge_mono (ge_X3_differs as S s) (fun _ h => h.1)) ge_none)) (ge_cond (ge_cond (ge_mono (ge_X3_differingLessons as S s) (fun _ h => h.1)) ge_none) (ge_cond (ge_cond (ge_X11_reset as S s) ge_none) (ge_cond (ge_mono (ge_X12_differs as S s) (fun _ h => h.1)) ge_none)))) (ge_cond (ge_cond (ge_cond (ge_mono (ge_X12_differences as S s) (fun _ h => h.1)) ge_none) (ge_cond (ge_X12_reset as S s) ge_none)) (ge_cond (ge_cond (ge_X12_whyNotCover as S s) ge_none) (ge_cond (ge_cond (ge_X12_whyNotSupervise as S s) ge_none) (ge_cond (ge_X12_whyNotExchange as S s) ge_none))))) (ge_cond (ge_cond (ge_cond (ge_cond (ge_X12_whyNotMove as S s) ge_none) (ge_cond (ge_X12_whyNotRoom as S s) ge_none)) (ge_cond (ge_cond (ge_X12_candidates as S s) ge_none) (ge_cond (ge_cond (ge_X12_chain as S s) ge_none) (ge_cond (ge_X12_chainTeacher as S s) ge_none)))) (ge_cond (ge_cond (ge_cond (ge_mono (ge_X12_partnerOf as S s) (fun _ h => h.1)) ge_none) (ge_cond (ge_cond (ge_X12_partners as S s) ge_none) (ge_cond (ge_X12_firstPartner as S s) ge_none))) (ge_cond (ge_cond (ge_X12_slotsFor as S s) ge_none) (ge_cond (ge_cond (ge_mono (ge_X7_lessonsWith as S s) (fun _ h => h.1)) ge_none) (ge_cond (ge_mono (ge_X3_supervisedLessons as S s) (fun _ h => h.1)) ge_none))))))) (ge_cond (ge_cond (ge_cond (ge_cond (ge_cond (ge_cond (ge_mono (ge_X3_openLessons as S s) (fun _ h => h.1)) ge_none) (ge_cond (ge_mono (ge_X12_watchedMany as S s) (fun _ h => h.1)) ge_none)) (ge_cond (ge_cond (ge_mono (ge_X12_openMany as S s) (fun _ h => h.1)) ge_none) (ge_cond (ge_cond (ge_X12_count as S s) ge_none) (ge_cond (ge_X12_lesson as S s) ge_none)))) (ge_cond (ge_cond (ge_cond (ge_mono (ge_X3_taughtBy as S s) (fun _ h => h.1)) ge_none) (ge_cond (ge_X12_teacher as S s) ge_none)) (ge_cond (ge_cond (ge_X12_room as S s) ge_none) (ge_cond (ge_cond (ge_X12_subject as S s) ge_none) (ge_cond (ge_mono (ge_X12_isClass as S s) (fun _ h => h.1)) ge_none))))) (ge_cond (ge_cond (ge_cond (ge_cond (ge_X12_lessonOfClass as S s) ge_none) (ge_cond (ge_X12_lessonOfTeacher as S s) ge_none)) (ge_cond (ge_cond (ge_X12_lessonInRoom as S s) ge_none) (ge_cond (ge_cond (ge_X12_freeTeachers as S s) ge_none) (ge_cond (ge_X12_freeRooms as S s) ge_none)))) (ge_cond (ge_cond (ge_cond (ge_mono (ge_X12_lessonAt as S s) (fun _ h => h.1)) ge_none) (ge_cond (ge_X12_openLesson as S s) ge_none)) (ge_cond (ge_cond (ge_X12_difference as S s) ge_none) (ge_cond (ge_cond (ge_mono (ge_X3_windowsOf as S s) (fun _ h => h.1)) ge_none) (ge_cond (ge_mono (ge_X12_gapsIn as S s) (fun _ h => h.1)) ge_none)))))) (ge_cond (ge_cond (ge_cond (ge_cond (ge_cond (ge_X12_windows as S s) ge_none) (ge_cond (ge_X12_classWindows as S s) ge_none)) (ge_cond (ge_cond (ge_mono (ge_J9_max_7cf53 as S s) (fun _ h => h.1)) ge_none) (ge_cond (ge_cond (ge_mono (ge_X11_spread as S s) (fun _ h => h.1)) ge_none) (ge_cond (ge_X12_spread as S s) ge_none)))) (ge_cond (ge_cond (ge_cond (ge_mono (ge_X3_taughtLessons as S s) (fun _ h => h.1)) ge_none) (ge_cond (ge_mono (ge_X11_taughtShare as S s) (fun _ h => h.1)) ge_none)) (ge_cond (ge_cond (ge_X12_taughtShare as S s) ge_none) (ge_cond (ge_cond (ge_X5_append as S s) ge_none) (ge_cond (ge_X5_writeLesson as S s) ge_none))))) (ge_cond (ge_cond (ge_cond (ge_cond (ge_X5_write as S s) ge_none) (ge_cond (ge_X12_print as S s) ge_none)) (ge_cond (ge_cond (ge_X12_printLesson as S s) ge_none) (ge_cond (ge_cond (ge_X12_writeReport as S s) ge_none) (ge_cond (ge_X12_reportByte as S s) ge_none)))) (ge_cond (ge_cond (ge_cond (ge_X1_restoreLatest as S s) ge_none) (ge_cond (ge_cond (ge_X12_undo as S s) ge_none) (ge_cond (ge_mono (ge_X11_undoDepth as S s) (fun _ h => h.1)) ge_none))) (ge_cond (ge_cond (ge_X12_undoDepth as S s) ge_none) (ge_cond (ge_cond (ge_mono (ge_X12_thrown as S s) (fun _ h => h.1)) ge_none) (ge_cond (ge_X7_becomeSample as S s) ge_none)))))))) (ge_cond (ge_cond (ge_cond (ge_cond (ge_cond (ge_cond (ge_cond (ge_X11_appendText as S s) ge_none) (ge_cond (ge_X11_truncateText as S s) ge_none)) (ge_cond (ge_cond (ge_mono (ge_X11_requireTeacher as S s) (fun _ h => h.1)) ge_none) (ge_cond (ge_cond (ge_mono (ge_X11_requireDay as S s) (fun _ h => h.1)) ge_none) (ge_cond (ge_X11_setAbsent as S s) ge_none)))) (ge_cond (ge_cond (ge_cond (ge_mono (ge_X11_requireLesson as S s) (fun _ h => h.1)) ge_none) (ge_cond (ge_X11_keepUnlessRefused as S s) ge_none)) (ge_cond (ge_cond (ge_X11_cover as S s) ge_none) (ge_cond (ge_cond (ge_X11_supervise as S s) ge_none) (ge_cond (ge_X11_repair as S s) ge_none))))) (ge_cond (ge_cond (ge_cond (ge_cond (ge_X11_exchange as S s) ge_none) (ge_cond (ge_mono (ge_X11_requireSlot as S s) (fun _ h => h.1)) ge_none)) (ge_cond (ge_cond (ge_X11_move as S s) ge_none) (ge_cond (ge_cond (ge_mono (ge_X11_requireRoom as S s) (fun _ h => h.1)) ge_none) (ge_cond (ge_X11_setRoom as S s) ge_none)))) (ge_cond (ge_cond (ge_cond (ge_X11_reopen as S s) ge_none) (ge_cond (ge_mono (ge_X11_whyNotCover as S s) (fun _ h => h.1)) ge_none)) (ge_cond (ge_cond (ge_mono (ge_X11_whyNotSupervise as S s) (fun _ h => h.1)) ge_none) (ge_cond (ge_cond (ge_mono (ge_X11_whyNotExchange as S s) (fun _ h => h.1)) ge_none) (ge_cond (ge_mono (ge_X11_whyNotMove as S s) (fun _ h => h.1)) ge_none)))))) (ge_cond (ge_cond (ge_cond (ge_cond (ge_cond (ge_mono (ge_X11_whyNotRoom as S s) (fun _ h => h.1)) ge_none) (ge_cond (ge_mono (ge_X11_candidates as S s) (fun _ h => h.1)) ge_none)) (ge_cond (ge_cond (ge_X11_chain as S s) ge_none) (ge_cond (ge_cond (ge_X11_chainTeacher as S s) ge_none) (ge_cond (ge_mono (ge_X11_partners as S s) (fun _ h => h.1)) ge_none)))) (ge_cond (ge_cond (ge_cond (ge_mono (ge_X11_firstPartner as S s) (fun _ h => h.1)) ge_none) (ge_cond (ge_mono (ge_X11_slotsFor as S s) (fun _ h => h.1)) ge_none)) (ge_cond (ge_cond (ge_mono (ge_X11_count as S s) (fun _ h => h.1)) ge_none) (ge_cond (ge_cond (ge_mono (ge_X11_lesson as S s) (fun _ h => h.1)) ge_none) (ge_cond (ge_mono (ge_X11_teacher as S s) (fun _ h => h.1)) ge_none))))) (ge_cond (ge_cond (ge_cond (ge_cond (ge_mono (ge_X11_room as S s) (fun _ h => h.1)) ge_none) (ge_cond (ge_mono (ge_X11_subject as S s) (fun _ h => h.1)) ge_none)) (ge_cond (ge_cond (ge_mono (ge_X11_requireClass as S s) (fun _ h => h.1)) ge_none) (ge_cond (ge_cond (ge_mono (ge_X11_lessonOfClass as S s) (fun _ h => h.1)) ge_none) (ge_cond (ge_mono (ge_X11_lessonOfTeacher as S s) (fun _ h => h.1)) ge_none)))) (ge_cond (ge_cond (ge_cond (ge_mono (ge_X11_lessonInRoom as S s) (fun _ h => h.1)) ge_none) (ge_cond (ge_cond (ge_mono (ge_X11_freeTeachers as S s) (fun _ h => h.1)) ge_none) (ge_cond (ge_mono (ge_X11_freeRooms as S s) (fun _ h => h.1)) ge_none))) (ge_cond (ge_cond (ge_mono (ge_X11_openLesson as S s) (fun _ h => h.1)) ge_none) (ge_cond (ge_cond (ge_mono (ge_X11_difference as S s) (fun _ h => h.1)) ge_none) (ge_cond (ge_mono (ge_X11_windows as S s) (fun _ h => h.1)) ge_none))))))) (ge_cond (ge_cond (ge_cond (ge_cond (ge_cond (ge_cond (ge_mono (ge_X11_classWindows as S s) (fun _ h => h.1)) ge_none) (ge_cond (ge_X11_writeReport as S s) ge_none)) (ge_cond (ge_cond (ge_mono (ge_X11_reportByte as S s) (fun _ h => h.1)) ge_none) (ge_cond (ge_cond (ge_X11_undo as S s) ge_none) (ge_cond (ge_L_appendText as S s) ge_none)))) (ge_cond (ge_cond (ge_cond (ge_L_truncateText as S s) ge_none) (ge_cond (ge_L_setAbsent as S s) ge_none)) (ge_cond (ge_cond (ge_L_cover as S s) ge_none) (ge_cond (ge_cond (ge_L_supervise as S s) ge_none) (ge_cond (ge_L_repair as S s) ge_none))))) (ge_cond (ge_cond (ge_cond (ge_cond (ge_L_exchange as S s) ge_none) (ge_cond (ge_L_move as S s) ge_none)) (ge_cond (ge_cond (ge_L_setRoom as S s) ge_none) (ge_cond (ge_cond (ge_L_reopen as S s) ge_none) (ge_cond (ge_L_whyNotCover as S s) ge_none)))) (ge_cond (ge_cond (ge_cond (ge_L_whyNotSupervise as S s) ge_none) (ge_cond (ge_cond (ge_L_whyNotExchange as S s) ge_none) (ge_cond (ge_L_whyNotMove as S s) ge_none))) (ge_cond (ge_cond (ge_L_whyNotRoom as S s) ge_none) (ge_cond (ge_cond (ge_L_candidates as S s) ge_none) (ge_cond (ge_L_chain as S s) ge_none)))))) (ge_cond (ge_cond (ge_cond (ge_cond (ge_cond (ge_L_chainTeacher as S s) ge_none) (ge_cond (ge_L_partners as S s) ge_none)) (ge_cond (ge_cond (ge_L_firstPartner as S s) ge_none) (ge_cond (ge_cond (ge_L_slotsFor as S s) ge_none) (ge_cond (ge_L_count as S s) ge_none)))) (ge_cond (ge_cond (ge_cond (ge_L_lesson as S s) ge_none) (ge_cond (ge_L_teacher as S s) ge_none)) (ge_cond (ge_cond (ge_L_room as S s) ge_none) (ge_cond (ge_cond (ge_L_subject as S s) ge_none) (ge_cond (ge_L_lessonOfClass as S s) ge_none))))) (ge_cond (ge_cond (ge_cond (ge_cond (ge_L_lessonOfTeacher as S s) ge_none) (ge_cond (ge_L_lessonInRoom as S s) ge_none)) (ge_cond (ge_cond (ge_L_freeTeachers as S s) ge_none) (ge_cond (ge_cond (ge_L_freeRooms as S s) ge_none) (ge_cond (ge_L_openLesson as S s) ge_none)))) (ge_cond (ge_cond (ge_cond (ge_L_difference as S s) ge_none) (ge_cond (ge_cond (ge_L_windows as S s) ge_none) (ge_cond (ge_L_classWindows as S s) ge_none))) (ge_cond (ge_cond (ge_L_writeReport as S s) ge_none) (ge_cond (ge_cond (ge_L_reportByte as S s) ge_none) (ge_cond (ge_L_undo as S s) ge_none)))))))))
theorem ge_GP (mid : Nat) (as : List Value) (S : ga_S) (s : ga_M) : ge_N (fun o => o.2.1 = S ∧ o.2.2 = s) (fun α K => gaGP α mid as S s K) := ge_cond (ge_cond (ge_cond (ge_cond (ge_cond (ge_cond (ge_cond (ge_cond (ge_X6_at as S s) ge_none) (ge_cond (ge_J0_length_8abf5 as S s) ge_none)) (ge_cond (ge_cond (ge_J0_charAt_5068e as S s) ge_none) (ge_cond (ge_X12_in as S s) ge_none))) (ge_cond (ge_cond (ge_cond (ge_X10_afterBlanks as S s) ge_none) (ge_cond (ge_X10_isLetter as S s) ge_none)) (ge_cond (ge_cond (ge_X10_isDigit as S s) ge_none) (ge_cond (ge_J9_min_7cf53 as S s) ge_none)))) (ge_cond (ge_cond (ge_cond (ge_cond (ge_X10_afterLetters as S s) ge_none) (ge_cond (ge_X10_isWord as S s) ge_none)) (ge_cond (ge_cond (ge_X11_hasBit as S s) ge_none) (ge_cond (ge_X7_slots as S s) ge_none))) (ge_cond (ge_cond (ge_cond (ge_X7_isTakenAtFirst as S s) ge_none) (ge_cond (ge_X7_hasTeacher as S s) ge_none)) (ge_cond (ge_cond (ge_X7_isQualified as S s) ge_none) (ge_cond (ge_X7_dayOf as S s) ge_none))))) (ge_cond (ge_cond (ge_cond (ge_cond (ge_cond (ge_X3_isAway as S s) ge_none) (ge_cond (ge_X3_isAwayAt as S s) ge_none)) (ge_cond (ge_cond (ge_X12_byteAt as S s) ge_none) (ge_cond (ge_X12_isLetterAt as S s) ge_none))) (ge_cond (ge_cond (ge_cond (ge_X12_isDigitAt as S s) ge_none) (ge_cond (ge_X12_isWord as S s) ge_none)) (ge_cond (ge_cond (ge_X12_digits as S s) ge_none) (ge_cond (ge_X12_has as S s) ge_none)))) (ge_cond (ge_cond (ge_cond (ge_cond (ge_X12_isThere as S s) ge_none) (ge_cond (ge_X1_baseOf as S s) ge_none)) (ge_cond (ge_cond (ge_X9_wordOf as S s) ge_none) (ge_cond (ge_X9_findStep as S s) ge_none))) (ge_cond (ge_cond (ge_cond (ge_X9_numbersOf as S s) ge_none) (ge_cond (ge_X7_hasDay as S s) ge_none)) (ge_cond (ge_cond (ge_X7_hasLesson as S s) ge_none) (ge_cond (ge_cond (ge_X3_isOpen as S s) ge_none) (ge_cond (ge_X0_presentAt as S s) ge_none))))))) (ge_cond (ge_cond (ge_cond (ge_cond (ge_cond (ge_cond (ge_X3_isTaught as S s) ge_none) (ge_cond (ge_X7_qualifiedFor as S s) ge_none)) (ge_cond (ge_cond (ge_X3_loadOf as S s) ge_none) (ge_cond (ge_X0_leastLoaded as S s) ge_none))) (ge_cond (ge_cond (ge_cond (ge_X0_successorsOf as S s) ge_none) (ge_cond (ge_X0_thoseBefore as S s) ge_none)) (ge_cond (ge_cond (ge_X0_lowest as S s) ge_none) (ge_cond (ge_X3_lessonAt as S s) ge_none)))) (ge_cond (ge_cond (ge_cond (ge_cond (ge_X7_hasRoom as S s) ge_none) (ge_cond (ge_X4_againstRoom as S s) ge_none)) (ge_cond (ge_cond (ge_X7_hasSlot as S s) ge_none) (ge_cond (ge_X4_isBusy as S s) ge_none))) (ge_cond (ge_cond (ge_cond (ge_X4_isTeacherAwayAt as S s) ge_none) (ge_cond (ge_X4_againstMove as S s) ge_none)) (ge_cond (ge_cond (ge_X4_isHeldByThird as S s) ge_none) (ge_cond (ge_X4_againstExchange as S s) ge_none))))) (ge_cond (ge_cond (ge_cond (ge_cond (ge_cond (ge_X3_isSupervised as S s) ge_none) (ge_cond (ge_X3_dutiesOn as S s) ge_none)) (ge_cond (ge_cond (ge_X4_againstSupervision as S s) ge_none) (ge_cond (ge_X4_againstCover as S s) ge_none))) (ge_cond (ge_cond (ge_cond (ge_X12_stepHere as S s) ge_none) (ge_cond (ge_X12_isLesson as S s) ge_none)) (ge_cond (ge_cond (ge_X12_isOpen as S s) ge_none) (ge_cond (ge_X12_isRoom as S s) ge_none)))) (ge_cond (ge_cond (ge_cond (ge_cond (ge_X12_lessonWith as S s) ge_none) (ge_cond (ge_X12_reasonForRoom as S s) ge_none)) (ge_cond (ge_cond (ge_X12_slots as S s) ge_none) (ge_cond (ge_X12_isSlot as S s) ge_none))) (ge_cond (ge_cond (ge_cond (ge_X12_ofClass as S s) ge_none) (ge_cond (ge_X12_ofTeacher as S s) ge_none)) (ge_cond (ge_cond (ge_X12_dayOf as S s) ge_none) (ge_cond (ge_cond (ge_X12_isAbsent as S s) ge_none) (ge_cond (ge_X12_reasonToMove as S s) ge_none)))))))) (ge_cond (ge_cond (ge_cond (ge_cond (ge_cond (ge_cond (ge_cond (ge_X12_isElsewhere as S s) ge_none) (ge_cond (ge_X12_reasonToExchange as S s) ge_none)) (ge_cond (ge_cond (ge_X12_isQualified as S s) ge_none) (ge_cond (ge_X12_isOnWay as S s) ge_none))) (ge_cond (ge_cond (ge_cond (ge_X12_isTaught as S s) ge_none) (ge_cond (ge_X12_taughtBy as S s) ge_none)) (ge_cond (ge_cond (ge_X12_firstBy as S s) ge_none) (ge_cond (ge_X12_loadOf as S s) ge_none)))) (ge_cond (ge_cond (ge_cond (ge_cond (ge_X12_isTeacher as S s) ge_none) (ge_cond (ge_X12_dutiesOf as S s) ge_none)) (ge_cond (ge_cond (ge_X12_reasonToWatch as S s) ge_none) (ge_cond (ge_X12_reasonToCover as S s) ge_none))) (ge_cond (ge_cond (ge_cond (ge_X12_isDay as S s) ge_none) (ge_cond (ge_X11_errorCode as S s) ge_none)) (ge_cond (ge_cond (ge_X11_errorPosition as S s) ge_none) (ge_cond (ge_X3_dutiesOf as S s) ge_none))))) (ge_cond (ge_cond (ge_cond (ge_cond (ge_cond (ge_X3_differs as S s) ge_none) (ge_cond (ge_X3_differingLessons as S s) ge_none)) (ge_cond (ge_cond (ge_X12_differs as S s) ge_none) (ge_cond (ge_X12_differences as S s) ge_none))) (ge_cond (ge_cond (ge_cond (ge_X12_partnerOf as S s) ge_none) (ge_cond (ge_X7_lessonsWith as S s) ge_none)) (ge_cond (ge_cond (ge_X3_supervisedLessons as S s) ge_none) (ge_cond (ge_X3_openLessons as S s) ge_none)))) (ge_cond (ge_cond (ge_cond (ge_cond (ge_X12_watchedMany as S s) ge_none) (ge_cond (ge_X12_openMany as S s) ge_none)) (ge_cond (ge_cond (ge_X3_taughtBy as S s) ge_none) (ge_cond (ge_X12_isClass as S s) ge_none))) (ge_cond (ge_cond (ge_cond (ge_X12_lessonAt as S s) ge_none) (ge_cond (ge_X3_windowsOf as S s) ge_none)) (ge_cond (ge_cond (ge_X12_gapsIn as S s) ge_none) (ge_cond (ge_cond (ge_J9_max_7cf53 as S s) ge_none) (ge_cond (ge_X11_spread as S s) ge_none))))))) (ge_cond (ge_cond (ge_cond (ge_cond (ge_cond (ge_cond (ge_X3_taughtLessons as S s) ge_none) (ge_cond (ge_X11_taughtShare as S s) ge_none)) (ge_cond (ge_cond (ge_X11_undoDepth as S s) ge_none) (ge_cond (ge_X12_thrown as S s) ge_none))) (ge_cond (ge_cond (ge_cond (ge_X11_requireTeacher as S s) ge_none) (ge_cond (ge_X11_requireDay as S s) ge_none)) (ge_cond (ge_cond (ge_X11_requireLesson as S s) ge_none) (ge_cond (ge_X11_requireSlot as S s) ge_none)))) (ge_cond (ge_cond (ge_cond (ge_cond (ge_X11_requireRoom as S s) ge_none) (ge_cond (ge_X11_whyNotCover as S s) ge_none)) (ge_cond (ge_cond (ge_X11_whyNotSupervise as S s) ge_none) (ge_cond (ge_X11_whyNotExchange as S s) ge_none))) (ge_cond (ge_cond (ge_cond (ge_X11_whyNotMove as S s) ge_none) (ge_cond (ge_X11_whyNotRoom as S s) ge_none)) (ge_cond (ge_cond (ge_X11_candidates as S s) ge_none) (ge_cond (ge_cond (ge_X11_partners as S s) ge_none) (ge_cond (ge_X11_firstPartner as S s) ge_none)))))) (ge_cond (ge_cond (ge_cond (ge_cond (ge_cond (ge_X11_slotsFor as S s) ge_none) (ge_cond (ge_X11_count as S s) ge_none)) (ge_cond (ge_cond (ge_X11_lesson as S s) ge_none) (ge_cond (ge_X11_teacher as S s) ge_none))) (ge_cond (ge_cond (ge_cond (ge_X11_room as S s) ge_none) (ge_cond (ge_X11_subject as S s) ge_none)) (ge_cond (ge_cond (ge_X11_requireClass as S s) ge_none) (ge_cond (ge_X11_lessonOfClass as S s) ge_none)))) (ge_cond (ge_cond (ge_cond (ge_cond (ge_X11_lessonOfTeacher as S s) ge_none) (ge_cond (ge_X11_lessonInRoom as S s) ge_none)) (ge_cond (ge_cond (ge_X11_freeTeachers as S s) ge_none) (ge_cond (ge_X11_freeRooms as S s) ge_none))) (ge_cond (ge_cond (ge_cond (ge_X11_openLesson as S s) ge_none) (ge_cond (ge_X11_difference as S s) ge_none)) (ge_cond (ge_cond (ge_X11_windows as S s) ge_none) (ge_cond (ge_cond (ge_X11_classWindows as S s) ge_none) (ge_cond (ge_X11_reportByte as S s) ge_none))))))))
/-- what the table of the reading ones gives, the whole table gives -/
def gf_N (mid : Nat) (as : List Value) (S : ga_S) (s : ga_M) (x : Option ga_O) : Prop := ∀ o, x = some o → gaG ga_O mid as S s some = some o
theorem gf_cond {mid : Nat} {as : List Value} {S : ga_S} {s : ga_M} {b : Bool} {x y : Option ga_O} (h1 : gf_N mid as S s x) (h2 : gf_N mid as S s y) : gf_N mid as S s (bif b then x else y) := by cases b; exact h2; exact h1
theorem gf_leaf {mid n : Nat} {as : List Value} {S : ga_S} {s : ga_M} {x : Option ga_O} (h : ∀ u : Unit, gaG ga_O n as S s some = x) : gf_N mid as S s (bif Nat.beq mid n then x else none) := by
  intro o ho
  cases hb : Nat.beq mid n with
  | false => rw [hb] at ho; cases ho
  | true =>
    rw [hb] at ho
    rw [Nat.eq_of_beq_eq_true hb, h ()]
    exact ho
theorem gf_GP (mid : Nat) (as : List Value) (S : ga_S) (s : ga_M) : gf_N mid as S s (gaGP ga_O mid as S s some) := gf_cond (gf_cond (gf_cond (gf_cond (gf_cond (gf_cond (gf_cond (gf_leaf (fun _ => rfl)) (gf_leaf (fun _ => rfl))) (gf_cond (gf_leaf (fun _ => rfl)) (gf_leaf (fun _ => rfl)))) (gf_cond (gf_cond (gf_leaf (fun _ => rfl)) (gf_leaf (fun _ => rfl))) (gf_cond (gf_leaf (fun _ => rfl)) (gf_leaf (fun _ => rfl))))) (gf_cond (gf_cond (gf_cond (gf_leaf (fun _ => rfl)) (gf_leaf (fun _ => rfl))) (gf_cond (gf_leaf (fun _ => rfl)) (gf_leaf (fun _ => rfl)))) (gf_cond (gf_cond (gf_leaf (fun _ => rfl)) (gf_leaf (fun _ => rfl))) (gf_cond (gf_leaf (fun _ => rfl)) (gf_leaf (fun _ => rfl)))))) (gf_cond (gf_cond (gf_cond (gf_cond (gf_leaf (fun _ => rfl)) (gf_leaf (fun _ => rfl))) (gf_cond (gf_leaf (fun _ => rfl)) (gf_leaf (fun _ => rfl)))) (gf_cond (gf_cond (gf_leaf (fun _ => rfl)) (gf_leaf (fun _ => rfl))) (gf_cond (gf_leaf (fun _ => rfl)) (gf_leaf (fun _ => rfl))))) (gf_cond (gf_cond (gf_cond (gf_leaf (fun _ => rfl)) (gf_leaf (fun _ => rfl))) (gf_cond (gf_leaf (fun _ => rfl)) (gf_leaf (fun _ => rfl)))) (gf_cond (gf_cond (gf_leaf (fun _ => rfl)) (gf_leaf (fun _ => rfl))) (gf_cond (gf_leaf (fun _ => rfl)) (gf_cond (gf_leaf (fun _ => rfl)) (gf_leaf (fun _ => rfl)))))))) (gf_cond (gf_cond (gf_cond (gf_cond (gf_cond (gf_leaf (fun _ => rfl)) (gf_leaf (fun _ => rfl))) (gf_cond (gf_leaf (fun _ => rfl)) (gf_leaf (fun _ => rfl)))) (gf_cond (gf_cond (gf_leaf (fun _ => rfl)) (gf_leaf (fun _ => rfl))) (gf_cond (gf_leaf (fun _ => rfl)) (gf_leaf (fun _ => rfl))))) (gf_cond (gf_cond (gf_cond (gf_leaf (fun _ => rfl)) (gf_leaf (fun _ => rfl))) (gf_cond (gf_leaf (fun _ => rfl)) (gf_leaf (fun _ => rfl)))) (gf_cond (gf_cond (gf_leaf (fun _ => rfl)) (gf_leaf (fun _ => rfl))) (gf_cond (gf_leaf (fun _ => rfl)) (gf_leaf (fun _ => rfl)))))) (gf_cond (gf_cond (gf_cond (gf_cond (gf_leaf (fun _ => rfl)) (gf_leaf (fun _ => rfl))) (gf_cond (gf_leaf (fun _ => rfl)) (gf_leaf (fun _ => rfl)))) (gf_cond (gf_cond (gf_leaf (fun _ => rfl)) (gf_leaf (fun _ => rfl))) (gf_cond (gf_leaf (fun _ => rfl)) (gf_leaf (fun _ => rfl))))) (gf_cond (gf_cond (gf_cond (gf_leaf (fun _ => rfl)) (gf_leaf (fun _ => rfl))) (gf_cond (gf_leaf (fun _ => rfl)) (gf_leaf (fun _ => rfl)))) (gf_cond (gf_cond (gf_leaf (fun _ => rfl)) (gf_leaf (fun _ => rfl))) (gf_cond (gf_leaf (fun _ => rfl)) (gf_cond (gf_leaf (fun _ => rfl)) (gf_leaf (fun _ => rfl))))))))) (gf_cond (gf_cond (gf_cond (gf_cond (gf_cond (gf_cond (gf_leaf (fun _ => rfl)) (gf_leaf (fun _ => rfl))) (gf_cond (gf_leaf (fun _ => rfl)) (gf_leaf (fun _ => rfl)))) (gf_cond (gf_cond (gf_leaf (fun _ => rfl)) (gf_leaf (fun _ => rfl))) (gf_cond (gf_leaf (fun _ => rfl)) (gf_leaf (fun _ => rfl))))) (gf_cond (gf_cond (gf_cond (gf_leaf (fun _ => rfl)) (gf_leaf (fun _ => rfl))) (gf_cond (gf_leaf (fun _ => rfl)) (gf_leaf (fun _ => rfl)))) (gf_cond (gf_cond (gf_leaf (fun _ => rfl)) (gf_leaf (fun _ => rfl))) (gf_cond (gf_leaf (fun _ => rfl)) (gf_leaf (fun _ => rfl)))))) (gf_cond (gf_cond (gf_cond (gf_cond (gf_leaf (fun _ => rfl)) (gf_leaf (fun _ => rfl))) (gf_cond (gf_leaf (fun _ => rfl)) (gf_leaf (fun _ => rfl)))) (gf_cond (gf_cond (gf_leaf (fun _ => rfl)) (gf_leaf (fun _ => rfl))) (gf_cond (gf_leaf (fun _ => rfl)) (gf_leaf (fun _ => rfl))))) (gf_cond (gf_cond (gf_cond (gf_leaf (fun _ => rfl)) (gf_leaf (fun _ => rfl))) (gf_cond (gf_leaf (fun _ => rfl)) (gf_leaf (fun _ => rfl)))) (gf_cond (gf_cond (gf_leaf (fun _ => rfl)) (gf_leaf (fun _ => rfl))) (gf_cond (gf_leaf (fun _ => rfl)) (gf_cond (gf_leaf (fun _ => rfl)) (gf_leaf (fun _ => rfl)))))))) (gf_cond (gf_cond (gf_cond (gf_cond (gf_cond (gf_leaf (fun _ => rfl)) (gf_leaf (fun _ => rfl))) (gf_cond (gf_leaf (fun _ => rfl)) (gf_leaf (fun _ => rfl)))) (gf_cond (gf_cond (gf_leaf (fun _ => rfl)) (gf_leaf (fun _ => rfl))) (gf_cond (gf_leaf (fun _ => rfl)) (gf_leaf (fun _ => rfl))))) (gf_cond (gf_cond (gf_cond (gf_leaf (fun _ => rfl)) (gf_leaf (fun _ => rfl))) (gf_cond (gf_leaf (fun _ => rfl)) (gf_leaf (fun _ => rfl)))) (gf_cond (gf_cond (gf_leaf (fun _ => rfl)) (gf_leaf (fun _ => rfl))) (gf_cond (gf_leaf (fun _ => rfl)) (gf_cond (gf_leaf (fun _ => rfl)) (gf_leaf (fun _ => rfl))))))) (gf_cond (gf_cond (gf_cond (gf_cond (gf_leaf (fun _ => rfl)) (gf_leaf (fun _ => rfl))) (gf_cond (gf_leaf (fun _ => rfl)) (gf_leaf (fun _ => rfl)))) (gf_cond (gf_cond (gf_leaf (fun _ => rfl)) (gf_leaf (fun _ => rfl))) (gf_cond (gf_leaf (fun _ => rfl)) (gf_leaf (fun _ => rfl))))) (gf_cond (gf_cond (gf_cond (gf_leaf (fun _ => rfl)) (gf_leaf (fun _ => rfl))) (gf_cond (gf_leaf (fun _ => rfl)) (gf_leaf (fun _ => rfl)))) (gf_cond (gf_cond (gf_leaf (fun _ => rfl)) (gf_leaf (fun _ => rfl))) (gf_cond (gf_leaf (fun _ => rfl)) (gf_cond (gf_leaf (fun _ => rfl)) (gf_leaf (fun _ => rfl)))))))))
theorem gf_398 (as : List Value) (S : ga_S) (s : ga_M) : gaG ga_O 398 as S s some = none := rfl
theorem gf_399 (as : List Value) (S : ga_S) (s : ga_M) : gaG ga_O 399 as S s some = none := rfl
theorem gf_398P (as : List Value) (S : ga_S) (s : ga_M) : gaGP ga_O 398 as S s some = none := rfl
theorem gf_399P (as : List Value) (S : ga_S) (s : ga_M) : gaGP ga_O 399 as S s some = none := rfl
end GE0
