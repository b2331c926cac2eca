section GE0
/-- a call by number: the rest comes behind it -/
def ge_N (P : ga_O → Prop) (F : ∀ α : Type, (ga_O → Option α) → Option α) : Prop := ∀ (α : Type) (k : ga_O → Option α) (o : α), F α k = some o → ∃ o1, P o1 ∧ F ga_O some = some o1 ∧ k o1 = some o
variable {P : ga_O → Prop}
theorem ge_none : ge_N P (fun _ _ => none) := fun _ _ _ h => nomatch h
theorem ge_K {o1 : ga_O} (h : P o1) : ge_N P (fun _ K => K o1) := fun _ _ _ hk => ⟨o1, h, rfl, hk⟩
theorem ge_cond {b : Bool} {F1 F2 : ∀ α : Type, (ga_O → Option α) → Option α} (h1 : ge_N P F1) (h2 : ge_N P F2) : ge_N P (fun α K => bif b then F1 α K else F2 α K) := by cases b; exact h2; exact h1
theorem ge_if {c : Prop} {_ : Decidable c} {F1 F2 : ∀ α : Type, (ga_O → Option α) → Option α} (h1 : ge_N P F1) (h2 : ge_N P F2) : ge_N P (fun α K => if c then F1 α K else F2 α K) := by split; exact h1; exact h2
theorem ge_bind {β : Type} {x : Option β} {F : β → ∀ α : Type, (ga_O → Option α) → Option α} (h : ∀ y, ge_N P (F y)) : ge_N P (fun α K => x.bind fun y => F y α K) := by
  cases x with
  | none => exact ge_none
  | some y => exact h y
theorem ge_elimO {β : Type} {x : Option β} {F1 : ∀ α : Type, (ga_O → Option α) → Option α} {F2 : β → ∀ α : Type, (ga_O → Option α) → Option α} (h1 : ge_N P F1) (h2 : ∀ y, ge_N P (F2 y)) : ge_N P (fun α K => Option.elim x (F1 α K) fun y => F2 y α K) := by
  cases x with
  | none => exact h1
  | some y => exact h2 y
theorem ge_elimS {β γ : Type} {x : β ⊕ γ} {F1 : β → ∀ α : Type, (ga_O → Option α) → Option α} {F2 : γ → ∀ α : Type, (ga_O → Option α) → Option α} (h1 : ∀ y, ge_N P (F1 y)) (h2 : ∀ y, ge_N P (F2 y)) : ge_N P (fun α K => Sum.elim (fun y => F1 y α K) (fun y => F2 y α K) x) := by
  cases x with
  | inl y => exact h1 y
  | inr y => exact h2 y
theorem ge_mono {Q : ga_O → Prop} {F : ∀ α : Type, (ga_O → Option α) → Option α} (h : ge_N P F) (hPQ : ∀ o, P o → Q o) : ge_N Q F := fun α k o hk => by
  obtain ⟨o1, h1, h2⟩ := h α k o hk
  exact ⟨o1, hPQ o1 h1, h2⟩
theorem ge_at {F : ∀ α : Type, (ga_O → Option α) → Option α} (h : ge_N P F) {o : ga_O} (ho : F ga_O some = some o) : P o := by
  obtain ⟨o1, h1, h2, h3⟩ := h _ _ _ ho
  rw [h2] at ho
  exact Option.some.inj ho ▸ h1
theorem ge_X10_append (as : List Value) (S : ga_S) (s : ga_M) : ge_N (fun o => o.2.1 = S) (fun α K => c_X10_append as S s K) := by
  unfold c_X10_append
  split
  · exact ge_cond (ge_bind (fun _ => ge_K rfl)) (ge_none)
  · exact ge_none
theorem ge_X11_appendText (as : List Value) (S : ga_S) (s : ga_M) : ge_N (fun o => o.2.1 = S) (fun α K => c_X11_appendText as S s K) := by
  unfold c_X11_appendText
  split
  · exact ge_cond (ge_bind (fun q => ge_elimS (x := q.1) (fun _ => ge_K rfl) (fun _ => ge_K rfl))) (ge_none)
  · exact ge_none
theorem ge_X11_truncateText (as : List Value) (S : ga_S) (s : ga_M) : ge_N (fun o => o.2.1 = S) (fun α K => c_X11_truncateText as S s K) := by
  unfold c_X11_truncateText
  split
  · exact ge_cond (ge_bind (fun q => ge_elimS (x := q.1) (fun _ => ge_K rfl) (fun _ => ge_K rfl))) (ge_none)
  · exact ge_none
theorem ge_X7_becomeEmpty (as : List Value) (S : ga_S) (s : ga_M) : ge_N (fun o => o.2.1 = S) (fun α K => c_X7_becomeEmpty as S s K) := by
  unfold c_X7_becomeEmpty
  split
  · exact ge_cond (ge_K rfl) (ge_cond (ge_K rfl) (ge_none))
  · exact ge_none
theorem ge_X10_afterBlanks (as : List Value) (S : ga_S) (s : ga_M) : ge_N (fun o => o.2.1 = S ∧ o.2.2 = s) (fun α K => c_X10_afterBlanks as S s K) := by
  unfold c_X10_afterBlanks
  split
  · exact ge_cond (ge_bind (fun _ => ge_K ⟨rfl, rfl⟩)) (ge_none)
  · exact ge_none
theorem ge_X10_isLetter (as : List Value) (S : ga_S) (s : ga_M) : ge_N (fun o => o.2.1 = S ∧ o.2.2 = s) (fun α K => c_X10_isLetter as S s K) := by
  unfold c_X10_isLetter
  split
  · exact ge_K ⟨rfl, rfl⟩
  · exact ge_none
theorem ge_X10_isDigit (as : List Value) (S : ga_S) (s : ga_M) : ge_N (fun o => o.2.1 = S ∧ o.2.2 = s) (fun α K => c_X10_isDigit as S s K) := by
  unfold c_X10_isDigit
  split
  · exact ge_K ⟨rfl, rfl⟩
  · exact ge_none
theorem ge_J9_min_7cf53 (as : List Value) (S : ga_S) (s : ga_M) : ge_N (fun o => o.2.1 = S ∧ o.2.2 = s) (fun α K => c_J9_min_7cf53 as S s K) := by
  unfold c_J9_min_7cf53
  split
  · exact ge_K ⟨rfl, rfl⟩
  · exact ge_none
theorem ge_X10_afterDigits (as : List Value) (S : ga_S) (s : ga_M) : ge_N (fun o => o.2.1 = S) (fun α K => c_X10_afterDigits as S s K) := by
  unfold c_X10_afterDigits
  split
  · exact ge_cond (ge_bind (fun _ => ge_K rfl)) (ge_none)
  · exact ge_none
theorem ge_X10_afterLetters (as : List Value) (S : ga_S) (s : ga_M) : ge_N (fun o => o.2.1 = S ∧ o.2.2 = s) (fun α K => c_X10_afterLetters as S s K) := by
  unfold c_X10_afterLetters
  split
  · exact ge_cond (ge_bind (fun _ => ge_K ⟨rfl, rfl⟩)) (ge_none)
  · exact ge_none
theorem ge_X10_next (as : List Value) (S : ga_S) (s : ga_M) : ge_N (fun o => o.2.1 = S) (fun α K => c_X10_next as S s K) := by
  unfold c_X10_next
  split
  · exact ge_cond (ge_bind (fun _ => ge_K rfl)) (ge_none)
  · exact ge_none
theorem ge_X10_begin (as : List Value) (S : ga_S) (s : ga_M) : ge_N (fun o => o.2.1 = S) (fun α K => c_X10_begin as S s K) := by
  unfold c_X10_begin
  split
  · exact ge_cond (ge_bind (fun _ => ge_K rfl)) (ge_none)
  · exact ge_none
theorem ge_X10_isWord (as : List Value) (S : ga_S) (s : ga_M) : ge_N (fun o => o.2.1 = S ∧ o.2.2 = s) (fun α K => c_X10_isWord as S s K) := by
  unfold c_X10_isWord
  split
  · exact ge_cond (ge_bind (fun _ => ge_K ⟨rfl, rfl⟩)) (ge_none)
  · exact ge_none
theorem ge_X10_fail (as : List Value) (S : ga_S) (s : ga_M) : ge_N (fun o => o.2.1 = S) (fun α K => c_X10_fail as S s K) := by
  unfold c_X10_fail
  split
  · exact ge_cond (ge_K rfl) (ge_none)
  · exact ge_none
theorem ge_X8_fail (as : List Value) (S : ga_S) (s : ga_M) : ge_N (fun o => o.2.1 = S) (fun α K => c_X8_fail as S s K) := by
  unfold c_X8_fail
  split
  · exact ge_cond (ge_K rfl) (ge_none)
  · exact ge_none
theorem ge_X8_takeWord (as : List Value) (S : ga_S) (s : ga_M) : ge_N (fun o => o.2.1 = S) (fun α K => c_X8_takeWord as S s K) := by
  unfold c_X8_takeWord
  split
  · exact ge_cond (ge_bind (fun _ => ge_K rfl)) (ge_none)
  · exact ge_none
theorem ge_X8_checkNumber (as : List Value) (S : ga_S) (s : ga_M) : ge_N (fun o => o.2.1 = S) (fun α K => c_X8_checkNumber as S s K) := by
  unfold c_X8_checkNumber
  split
  · exact ge_cond (ge_K rfl) (ge_none)
  · exact ge_none
theorem ge_X8_takeNumber (as : List Value) (S : ga_S) (s : ga_M) : ge_N (fun o => o.2.1 = S) (fun α K => c_X8_takeNumber as S s K) := by
  unfold c_X8_takeNumber
  split
  · exact ge_cond (ge_bind (fun _ => ge_K rfl)) (ge_none)
  · exact ge_none
theorem ge_X8_takeSemicolon (as : List Value) (S : ga_S) (s : ga_M) : ge_N (fun o => o.2.1 = S) (fun α K => c_X8_takeSemicolon as S s K) := by
  unfold c_X8_takeSemicolon
  split
  · exact ge_cond (ge_bind (fun _ => ge_K rfl)) (ge_none)
  · exact ge_none
theorem ge_X8_readGrid (as : List Value) (S : ga_S) (s : ga_M) : ge_N (fun o => o.2.1 = S) (fun α K => c_X8_readGrid as S s K) := by
  unfold c_X8_readGrid
  split
  · exact ge_cond (ge_bind (fun _ => ge_K rfl)) (ge_none)
  · exact ge_none
theorem ge_X7_addSubject (as : List Value) (S : ga_S) (s : ga_M) : ge_N (fun o => o.2.1 = S) (fun α K => c_X7_addSubject as S s K) := by
  unfold c_X7_addSubject
  split
  · exact ge_cond (ge_K rfl) (ge_cond (ge_K rfl) (ge_none))
  · exact ge_none
theorem ge_X8_readSubjects (as : List Value) (S : ga_S) (s : ga_M) : ge_N (fun o => o.2.1 = S) (fun α K => c_X8_readSubjects as S s K) := by
  unfold c_X8_readSubjects
  split
  · exact ge_cond (ge_bind (fun _ => ge_K rfl)) (ge_none)
  · exact ge_none
theorem ge_X7_addTeacher (as : List Value) (S : ga_S) (s : ga_M) : ge_N (fun o => o.2.1 = S) (fun α K => c_X7_addTeacher as S s K) := by
  unfold c_X7_addTeacher
  split
  · exact ge_cond (ge_K rfl) (ge_cond (ge_K rfl) (ge_none))
  · exact ge_none
theorem ge_X11_hasBit (as : List Value) (S : ga_S) (s : ga_M) : ge_N (fun o => o.2.1 = S ∧ o.2.2 = s) (fun α K => c_X11_hasBit as S s K) := by
  unfold c_X11_hasBit
  split
  · exact ge_K ⟨rfl, rfl⟩
  · exact ge_none
theorem ge_X8_readTeacher (as : List Value) (S : ga_S) (s : ga_M) : ge_N (fun o => o.2.1 = S) (fun α K => c_X8_readTeacher as S s K) := by
  unfold c_X8_readTeacher
  split
  · exact ge_cond (ge_bind (fun _ => ge_K rfl)) (ge_none)
  · exact ge_none
theorem ge_X8_readTeachers (as : List Value) (S : ga_S) (s : ga_M) : ge_N (fun o => o.2.1 = S) (fun α K => c_X8_readTeachers as S s K) := by
  unfold c_X8_readTeachers
  split
  · exact ge_cond (ge_bind (fun _ => ge_K rfl)) (ge_none)
  · exact ge_none
theorem ge_X7_addRoom (as : List Value) (S : ga_S) (s : ga_M) : ge_N (fun o => o.2.1 = S) (fun α K => c_X7_addRoom as S s K) := by
  unfold c_X7_addRoom
  split
  · exact ge_cond (ge_K rfl) (ge_cond (ge_K rfl) (ge_none))
  · exact ge_none
theorem ge_X8_readRooms (as : List Value) (S : ga_S) (s : ga_M) : ge_N (fun o => o.2.1 = S) (fun α K => c_X8_readRooms as S s K) := by
  unfold c_X8_readRooms
  split
  · exact ge_cond (ge_bind (fun _ => ge_K rfl)) (ge_none)
  · exact ge_none
theorem ge_X8_readClasses (as : List Value) (S : ga_S) (s : ga_M) : ge_N (fun o => o.2.1 = S) (fun α K => c_X8_readClasses as S s K) := by
  unfold c_X8_readClasses
  split
  · exact ge_cond (ge_bind (fun _ => ge_K rfl)) (ge_none)
  · exact ge_none
theorem ge_X7_slots (as : List Value) (S : ga_S) (s : ga_M) : ge_N (fun o => o.2.1 = S ∧ o.2.2 = s) (fun α K => c_X7_slots as S s K) := by
  unfold c_X7_slots
  split
  · exact ge_cond (ge_K ⟨rfl, rfl⟩) (ge_cond (ge_K ⟨rfl, rfl⟩) (ge_none))
  · exact ge_none
theorem ge_X7_isTakenAtFirst (as : List Value) (S : ga_S) (s : ga_M) : ge_N (fun o => o.2.1 = S ∧ o.2.2 = s) (fun α K => c_X7_isTakenAtFirst as S s K) := by
  unfold c_X7_isTakenAtFirst
  split
  · exact ge_cond (ge_bind (fun _ => ge_K ⟨rfl, rfl⟩)) (ge_cond (ge_bind (fun _ => ge_K ⟨rfl, rfl⟩)) (ge_cond (ge_bind (fun _ => ge_K ⟨rfl, rfl⟩)) (ge_none)))
  · exact ge_none
theorem ge_X8_checkUntaken (as : List Value) (S : ga_S) (s : ga_M) : ge_N (fun o => o.2.1 = S) (fun α K => c_X8_checkUntaken as S s K) := by
  unfold c_X8_checkUntaken
  split
  · exact ge_cond (ge_bind (fun _ => ge_K rfl)) (ge_cond (ge_bind (fun _ => ge_K rfl)) (ge_cond (ge_bind (fun _ => ge_K rfl)) (ge_none)))
  · exact ge_none
theorem ge_X7_hasTeacher (as : List Value) (S : ga_S) (s : ga_M) : ge_N (fun o => o.2.1 = S ∧ o.2.2 = s) (fun α K => c_X7_hasTeacher as S s K) := by
  unfold c_X7_hasTeacher
  split
  · exact ge_cond (ge_K ⟨rfl, rfl⟩) (ge_cond (ge_K ⟨rfl, rfl⟩) (ge_none))
  · exact ge_none
theorem ge_X7_isQualified (as : List Value) (S : ga_S) (s : ga_M) : ge_N (fun o => o.2.1 = S ∧ o.2.2 = s) (fun α K => c_X7_isQualified as S s K) := by
  unfold c_X7_isQualified
  split
  · exact ge_cond (ge_K ⟨rfl, rfl⟩) (ge_cond (ge_K ⟨rfl, rfl⟩) (ge_none))
  · exact ge_none
theorem ge_X7_addLesson (as : List Value) (S : ga_S) (s : ga_M) : ge_N (fun o => o.2.1 = S) (fun α K => c_X7_addLesson as S s K) := by
  unfold c_X7_addLesson
  split
  · exact ge_cond (ge_K rfl) (ge_cond (ge_K rfl) (ge_none))
  · exact ge_none
theorem ge_X8_readLesson (as : List Value) (S : ga_S) (s : ga_M) : ge_N (fun o => o.2.1 = S) (fun α K => c_X8_readLesson as S s K) := by
  unfold c_X8_readLesson
  split
  · exact ge_cond (ge_bind (fun _ => ge_K rfl)) (ge_none)
  · exact ge_none
theorem ge_X8_readLessons (as : List Value) (S : ga_S) (s : ga_M) : ge_N (fun o => o.2.1 = S) (fun α K => c_X8_readLessons as S s K) := by
  unfold c_X8_readLessons
  split
  · exact ge_cond (ge_bind (fun _ => ge_K rfl)) (ge_none)
  · exact ge_none
theorem ge_X8_read (as : List Value) (S : ga_S) (s : ga_M) : ge_N (fun o => o.2.1 = S) (fun α K => c_X8_read as S s K) := by
  unfold c_X8_read
  split
  · exact ge_cond (ge_bind (fun _ => ge_K rfl)) (ge_none)
  · exact ge_none
theorem ge_X7_become (as : List Value) (S : ga_S) (s : ga_M) : ge_N (fun o => o.2.1 = S) (fun α K => c_X7_become as S s K) := by
  unfold c_X7_become
  split
  · exact ge_cond (ge_K rfl) (ge_none)
  · exact ge_none
theorem ge_X7_dayOf (as : List Value) (S : ga_S) (s : ga_M) : ge_N (fun o => o.2.1 = S ∧ o.2.2 = s) (fun α K => c_X7_dayOf as S s K) := by
  unfold c_X7_dayOf
  split
  · exact ge_cond (ge_bind (fun _ => ge_K ⟨rfl, rfl⟩)) (ge_none)
  · exact ge_none
theorem ge_X3_isAway (as : List Value) (S : ga_S) (s : ga_M) : ge_N (fun o => o.2.1 = S ∧ o.2.2 = s) (fun α K => c_X3_isAway as S s K) := by
  unfold c_X3_isAway
  split
  · exact ge_cond (ge_K ⟨rfl, rfl⟩) (ge_none)
  · exact ge_none
theorem ge_X3_isAwayAt (as : List Value) (S : ga_S) (s : ga_M) : ge_N (fun o => o.2.1 = S ∧ o.2.2 = s) (fun α K => c_X3_isAwayAt as S s K) := by
  unfold c_X3_isAwayAt
  split
  · exact ge_cond (ge_bind (fun _ => ge_K ⟨rfl, rfl⟩)) (ge_none)
  · exact ge_none
theorem ge_X3_returnToFirst (as : List Value) (S : ga_S) (s : ga_M) : ge_N (fun o => o.2.1 = S) (fun α K => c_X3_returnToFirst as S s K) := by
  unfold c_X3_returnToFirst
  split
  · exact ge_cond (ge_bind (fun _ => ge_K rfl)) (ge_none)
  · exact ge_none
theorem ge_X3_begin (as : List Value) (S : ga_S) (s : ga_M) : ge_N (fun o => o.2.1 = S) (fun α K => c_X3_begin as S s K) := by
  unfold c_X3_begin
  split
  · exact ge_cond (ge_bind (fun _ => ge_K rfl)) (ge_none)
  · exact ge_none
theorem ge_X1_forget (as : List Value) (S : ga_S) (s : ga_M) : ge_N (fun o => o.2.1 = S) (fun α K => c_X1_forget as S s K) := by
  unfold c_X1_forget
  split
  · exact ge_cond (ge_K rfl) (ge_none)
  · exact ge_none
theorem ge_X11_parseSchool (as : List Value) (S : ga_S) (s : ga_M) : ge_N (fun o => o.2.1 = S) (fun α K => c_X11_parseSchool as S s K) := by
  unfold c_X11_parseSchool
  split
  · exact ge_cond (ge_bind (fun _ => ge_K rfl)) (ge_none)
  · exact ge_none
theorem ge_X11_requireTeacher (as : List Value) (S : ga_S) (s : ga_M) : ge_N (fun o => o.2.1 = S ∧ o.2.2 = s) (fun α K => c_X11_requireTeacher as S s K) := by
  unfold c_X11_requireTeacher
  split
  · exact ge_cond (ge_elimO (ge_K ⟨rfl, rfl⟩) (fun _ => ge_K ⟨rfl, rfl⟩)) (ge_none)
  · exact ge_none
theorem ge_X7_hasDay (as : List Value) (S : ga_S) (s : ga_M) : ge_N (fun o => o.2.1 = S ∧ o.2.2 = s) (fun α K => c_X7_hasDay as S s K) := by
  unfold c_X7_hasDay
  split
  · exact ge_cond (ge_K ⟨rfl, rfl⟩) (ge_none)
  · exact ge_none
theorem ge_X11_requireDay (as : List Value) (S : ga_S) (s : ga_M) : ge_N (fun o => o.2.1 = S ∧ o.2.2 = s) (fun α K => c_X11_requireDay as S s K) := by
  unfold c_X11_requireDay
  split
  · exact ge_cond (ge_elimO (ge_K ⟨rfl, rfl⟩) (fun _ => ge_K ⟨rfl, rfl⟩)) (ge_none)
  · exact ge_none
theorem ge_X1_baseOf (as : List Value) (S : ga_S) (s : ga_M) : ge_N (fun o => o.2.1 = S ∧ o.2.2 = s) (fun α K => c_X1_baseOf as S s K) := by
  unfold c_X1_baseOf
  split
  · exact ge_cond (ge_bind (fun _ => ge_K ⟨rfl, rfl⟩)) (ge_none)
  · exact ge_none
theorem ge_X1_mark (as : List Value) (S : ga_S) (s : ga_M) : ge_N (fun o => o.2.1 = S) (fun α K => c_X1_mark as S s K) := by
  unfold c_X1_mark
  split
  · exact ge_cond (ge_bind (fun _ => ge_K rfl)) (ge_none)
  · exact ge_none
theorem ge_X3_makeOpen (as : List Value) (S : ga_S) (s : ga_M) : ge_N (fun o => o.2.1 = S) (fun α K => c_X3_makeOpen as S s K) := by
  unfold c_X3_makeOpen
  split
  · exact ge_cond (ge_K rfl) (ge_none)
  · exact ge_none
theorem ge_X2_letBeAbsent (as : List Value) (S : ga_S) (s : ga_M) : ge_N (fun o => o.2.1 = S) (fun α K => c_X2_letBeAbsent as S s K) := by
  unfold c_X2_letBeAbsent
  split
  · exact ge_cond (ge_bind (fun _ => ge_K rfl)) (ge_none)
  · exact ge_none
theorem ge_X1_keepMarked (as : List Value) (S : ga_S) (s : ga_M) : ge_N (fun o => o.2.1 = S) (fun α K => c_X1_keepMarked as S s K) := by
  unfold c_X1_keepMarked
  split
  · exact ge_cond (ge_bind (fun _ => ge_K rfl)) (ge_none)
  · exact ge_none
theorem ge_X11_setAbsent (as : List Value) (S : ga_S) (s : ga_M) : ge_N (fun o => o.2.1 = S) (fun α K => c_X11_setAbsent as S s K) := by
  unfold c_X11_setAbsent
  split
  · exact ge_cond (ge_bind (fun q => ge_elimS (x := q.1) (fun _ => ge_K rfl) (fun _ => ge_K rfl))) (ge_none)
  · exact ge_none
theorem ge_X7_hasLesson (as : List Value) (S : ga_S) (s : ga_M) : ge_N (fun o => o.2.1 = S ∧ o.2.2 = s) (fun α K => c_X7_hasLesson as S s K) := by
  unfold c_X7_hasLesson
  split
  · exact ge_cond (ge_K ⟨rfl, rfl⟩) (ge_none)
  · exact ge_none
theorem ge_X11_requireLesson (as : List Value) (S : ga_S) (s : ga_M) : ge_N (fun o => o.2.1 = S ∧ o.2.2 = s) (fun α K => c_X11_requireLesson as S s K) := by
  unfold c_X11_requireLesson
  split
  · exact ge_cond (ge_elimO (ge_K ⟨rfl, rfl⟩) (fun _ => ge_K ⟨rfl, rfl⟩)) (ge_none)
  · exact ge_none
theorem ge_X3_isTaught (as : List Value) (S : ga_S) (s : ga_M) : ge_N (fun o => o.2.1 = S ∧ o.2.2 = s) (fun α K => c_X3_isTaught as S s K) := by
  unfold c_X3_isTaught
  split
  · exact ge_cond (ge_K ⟨rfl, rfl⟩) (ge_none)
  · exact ge_none
theorem ge_X3_lessonAt (as : List Value) (S : ga_S) (s : ga_M) : ge_N (fun o => o.2.1 = S ∧ o.2.2 = s) (fun α K => c_X3_lessonAt as S s K) := by
  unfold c_X3_lessonAt
  split
  · exact ge_cond (ge_bind (fun _ => ge_K ⟨rfl, rfl⟩)) (ge_cond (ge_bind (fun _ => ge_K ⟨rfl, rfl⟩)) (ge_cond (ge_bind (fun _ => ge_K ⟨rfl, rfl⟩)) (ge_none)))
  · exact ge_none
theorem ge_X4_isBusy (as : List Value) (S : ga_S) (s : ga_M) : ge_N (fun o => o.2.1 = S ∧ o.2.2 = s) (fun α K => c_X4_isBusy as S s K) := by
  unfold c_X4_isBusy
  split
  · exact ge_cond (ge_bind (fun _ => ge_K ⟨rfl, rfl⟩)) (ge_none)
  · exact ge_none
theorem ge_X3_loadOf (as : List Value) (S : ga_S) (s : ga_M) : ge_N (fun o => o.2.1 = S ∧ o.2.2 = s) (fun α K => c_X3_loadOf as S s K) := by
  unfold c_X3_loadOf
  split
  · exact ge_cond (ge_bind (fun _ => ge_K ⟨rfl, rfl⟩)) (ge_none)
  · exact ge_none
theorem ge_X4_againstCover (as : List Value) (S : ga_S) (s : ga_M) : ge_N (fun o => o.2.1 = S ∧ o.2.2 = s) (fun α K => c_X4_againstCover as S s K) := by
  unfold c_X4_againstCover
  split
  · exact ge_cond (ge_bind (fun _ => ge_K ⟨rfl, rfl⟩)) (ge_none)
  · exact ge_none
theorem ge_X3_letTeach (as : List Value) (S : ga_S) (s : ga_M) : ge_N (fun o => o.2.1 = S) (fun α K => c_X3_letTeach as S s K) := by
  unfold c_X3_letTeach
  split
  · exact ge_cond (ge_K rfl) (ge_none)
  · exact ge_none
theorem ge_X2_letCover (as : List Value) (S : ga_S) (s : ga_M) : ge_N (fun o => o.2.1 = S) (fun α K => c_X2_letCover as S s K) := by
  unfold c_X2_letCover
  split
  · exact ge_cond (ge_bind (fun _ => ge_K rfl)) (ge_none)
  · exact ge_none
theorem ge_X11_keepUnlessRefused (as : List Value) (S : ga_S) (s : ga_M) : ge_N (fun o => o.2.1 = S) (fun α K => c_X11_keepUnlessRefused as S s K) := by
  unfold c_X11_keepUnlessRefused
  split
  · exact ge_cond (ge_bind (fun q => ge_elimO (x := q.1) (ge_K rfl) (fun _ => ge_K rfl))) (ge_none)
  · exact ge_none
theorem ge_X11_cover (as : List Value) (S : ga_S) (s : ga_M) : ge_N (fun o => o.2.1 = S) (fun α K => c_X11_cover as S s K) := by
  unfold c_X11_cover
  split
  · exact ge_cond (ge_bind (fun q => ge_elimS (x := q.1) (fun _ => ge_K rfl) (fun _ => ge_K rfl))) (ge_none)
  · exact ge_none
theorem ge_X3_isOpen (as : List Value) (S : ga_S) (s : ga_M) : ge_N (fun o => o.2.1 = S ∧ o.2.2 = s) (fun α K => c_X3_isOpen as S s K) := by
  unfold c_X3_isOpen
  split
  · exact ge_cond (ge_K ⟨rfl, rfl⟩) (ge_none)
  · exact ge_none
theorem ge_X3_isSupervised (as : List Value) (S : ga_S) (s : ga_M) : ge_N (fun o => o.2.1 = S ∧ o.2.2 = s) (fun α K => c_X3_isSupervised as S s K) := by
  unfold c_X3_isSupervised
  split
  · exact ge_cond (ge_K ⟨rfl, rfl⟩) (ge_none)
  · exact ge_none
theorem ge_X3_dutiesOn (as : List Value) (S : ga_S) (s : ga_M) : ge_N (fun o => o.2.1 = S ∧ o.2.2 = s) (fun α K => c_X3_dutiesOn as S s K) := by
  unfold c_X3_dutiesOn
  split
  · exact ge_cond (ge_bind (fun _ => ge_K ⟨rfl, rfl⟩)) (ge_none)
  · exact ge_none
theorem ge_X4_againstSupervision (as : List Value) (S : ga_S) (s : ga_M) : ge_N (fun o => o.2.1 = S ∧ o.2.2 = s) (fun α K => c_X4_againstSupervision as S s K) := by
  unfold c_X4_againstSupervision
  split
  · exact ge_cond (ge_bind (fun _ => ge_K ⟨rfl, rfl⟩)) (ge_none)
  · exact ge_none
theorem ge_X3_letWatch (as : List Value) (S : ga_S) (s : ga_M) : ge_N (fun o => o.2.1 = S) (fun α K => c_X3_letWatch as S s K) := by
  unfold c_X3_letWatch
  split
  · exact ge_cond (ge_K rfl) (ge_none)
  · exact ge_none
theorem ge_X2_letSupervise (as : List Value) (S : ga_S) (s : ga_M) : ge_N (fun o => o.2.1 = S) (fun α K => c_X2_letSupervise as S s K) := by
  unfold c_X2_letSupervise
  split
  · exact ge_cond (ge_bind (fun _ => ge_K rfl)) (ge_none)
  · exact ge_none
theorem ge_X3_dutiesOf (as : List Value) (S : ga_S) (s : ga_M) : ge_N (fun o => o.2.1 = S ∧ o.2.2 = s) (fun α K => c_X3_dutiesOf as S s K) := by
  unfold c_X3_dutiesOf
  split
  · exact ge_cond (ge_bind (fun _ => ge_K ⟨rfl, rfl⟩)) (ge_none)
  · exact ge_none
theorem ge_X11_supervise (as : List Value) (S : ga_S) (s : ga_M) : ge_N (fun o => o.2.1 = S) (fun α K => c_X11_supervise as S s K) := by
  unfold c_X11_supervise
  split
  · exact ge_cond (ge_bind (fun q => ge_elimS (x := q.1) (fun _ => ge_K rfl) (fun _ => ge_K rfl))) (ge_none)
  · exact ge_none
theorem ge_X0_presentAt (as : List Value) (S : ga_S) (s : ga_M) : ge_N (fun o => o.2.1 = S ∧ o.2.2 = s) (fun α K => c_X0_presentAt as S s K) := by
  unfold c_X0_presentAt
  split
  · exact ge_cond (ge_bind (fun _ => ge_K ⟨rfl, rfl⟩)) (ge_none)
  · exact ge_none
theorem ge_X7_qualifiedFor (as : List Value) (S : ga_S) (s : ga_M) : ge_N (fun o => o.2.1 = S ∧ o.2.2 = s) (fun α K => c_X7_qualifiedFor as S s K) := by
  unfold c_X7_qualifiedFor
  split
  · exact ge_cond (ge_bind (fun _ => ge_K ⟨rfl, rfl⟩)) (ge_none)
  · exact ge_none
theorem ge_X0_busyAt (as : List Value) (S : ga_S) (s : ga_M) : ge_N (fun o => o.2.1 = S) (fun α K => c_X0_busyAt as S s K) := by
  unfold c_X0_busyAt
  split
  · exact ge_cond (ge_bind (fun _ => ge_K rfl)) (ge_none)
  · exact ge_none
theorem ge_X0_leastLoaded (as : List Value) (S : ga_S) (s : ga_M) : ge_N (fun o => o.2.1 = S ∧ o.2.2 = s) (fun α K => c_X0_leastLoaded as S s K) := by
  unfold c_X0_leastLoaded
  split
  · exact ge_cond (ge_bind (fun _ => ge_K ⟨rfl, rfl⟩)) (ge_none)
  · exact ge_none
theorem ge_X0_successorsOf (as : List Value) (S : ga_S) (s : ga_M) : ge_N (fun o => o.2.1 = S ∧ o.2.2 = s) (fun α K => c_X0_successorsOf as S s K) := by
  unfold c_X0_successorsOf
  split
  · exact ge_cond (ge_bind (fun _ => ge_K ⟨rfl, rfl⟩)) (ge_none)
  · exact ge_none
theorem ge_X0_thoseBefore (as : List Value) (S : ga_S) (s : ga_M) : ge_N (fun o => o.2.1 = S ∧ o.2.2 = s) (fun α K => c_X0_thoseBefore as S s K) := by
  unfold c_X0_thoseBefore
  split
  · exact ge_cond (ge_bind (fun _ => ge_K ⟨rfl, rfl⟩)) (ge_none)
  · exact ge_none
theorem ge_X0_lowest (as : List Value) (S : ga_S) (s : ga_M) : ge_N (fun o => o.2.1 = S ∧ o.2.2 = s) (fun α K => c_X0_lowest as S s K) := by
  unfold c_X0_lowest
  split
  · exact ge_cond (ge_bind (fun _ => ge_K ⟨rfl, rfl⟩)) (ge_none)
  · exact ge_none
theorem ge_X0_choose (as : List Value) (S : ga_S) (s : ga_M) : ge_N (fun o => o.2.1 = S) (fun α K => c_X0_choose as S s K) := by
  unfold c_X0_choose
  split
  · exact ge_cond (ge_bind (fun _ => ge_K rfl)) (ge_none)
  · exact ge_none
theorem ge_X0_find (as : List Value) (S : ga_S) (s : ga_M) : ge_N (fun o => o.2.1 = S) (fun α K => c_X0_find as S s K) := by
  unfold c_X0_find
  split
  · exact ge_cond (ge_bind (fun _ => ge_K rfl)) (ge_none)
  · exact ge_none
theorem ge_X2_repairByChain (as : List Value) (S : ga_S) (s : ga_M) : ge_N (fun o => o.2.1 = S) (fun α K => c_X2_repairByChain as S s K) := by
  unfold c_X2_repairByChain
  split
  · exact ge_cond (ge_bind (fun _ => ge_K rfl)) (ge_none)
  · exact ge_none
theorem ge_X11_repair (as : List Value) (S : ga_S) (s : ga_M) : ge_N (fun o => o.2.1 = S) (fun α K => c_X11_repair as S s K) := by
  unfold c_X11_repair
  split
  · exact ge_cond (ge_bind (fun q => ge_elimS (x := q.1) (fun _ => ge_K rfl) (fun _ => ge_K rfl))) (ge_none)
  · exact ge_none
theorem ge_X2_repairOpenLessons (as : List Value) (S : ga_S) (s : ga_M) : ge_N (fun o => o.2.1 = S) (fun α K => c_X2_repairOpenLessons as S s K) := by
  unfold c_X2_repairOpenLessons
  split
  · exact ge_cond (ge_bind (fun _ => ge_K rfl)) (ge_none)
  · exact ge_none
theorem ge_X11_repairAll (as : List Value) (S : ga_S) (s : ga_M) : ge_N (fun o => o.2.1 = S) (fun α K => c_X11_repairAll as S s K) := by
  unfold c_X11_repairAll
  split
  · exact ge_cond (ge_bind (fun _ => ge_K rfl)) (ge_none)
  · exact ge_none
theorem ge_X4_isTeacherAwayAt (as : List Value) (S : ga_S) (s : ga_M) : ge_N (fun o => o.2.1 = S ∧ o.2.2 = s) (fun α K => c_X4_isTeacherAwayAt as S s K) := by
  unfold c_X4_isTeacherAwayAt
  split
  · exact ge_cond (ge_bind (fun _ => ge_K ⟨rfl, rfl⟩)) (ge_none)
  · exact ge_none
theorem ge_X4_isHeldByThird (as : List Value) (S : ga_S) (s : ga_M) : ge_N (fun o => o.2.1 = S ∧ o.2.2 = s) (fun α K => c_X4_isHeldByThird as S s K) := by
  unfold c_X4_isHeldByThird
  split
  · exact ge_cond (ge_bind (fun _ => ge_K ⟨rfl, rfl⟩)) (ge_cond (ge_bind (fun _ => ge_K ⟨rfl, rfl⟩)) (ge_none))
  · exact ge_none
theorem ge_X4_againstExchange (as : List Value) (S : ga_S) (s : ga_M) : ge_N (fun o => o.2.1 = S ∧ o.2.2 = s) (fun α K => c_X4_againstExchange as S s K) := by
  unfold c_X4_againstExchange
  split
  · exact ge_cond (ge_bind (fun _ => ge_K ⟨rfl, rfl⟩)) (ge_none)
  · exact ge_none
theorem ge_X2_swapSlots (as : List Value) (S : ga_S) (s : ga_M) : ge_N (fun o => o.2.1 = S) (fun α K => c_X2_swapSlots as S s K) := by
  unfold c_X2_swapSlots
  split
  · exact ge_cond (ge_bind (fun _ => ge_K rfl)) (ge_none)
  · exact ge_none
theorem ge_X11_exchange (as : List Value) (S : ga_S) (s : ga_M) : ge_N (fun o => o.2.1 = S) (fun α K => c_X11_exchange as S s K) := by
  unfold c_X11_exchange
  split
  · exact ge_cond (ge_bind (fun q => ge_elimS (x := q.1) (fun _ => ge_K rfl) (fun _ => ge_K rfl))) (ge_none)
  · exact ge_none
theorem ge_X7_hasSlot (as : List Value) (S : ga_S) (s : ga_M) : ge_N (fun o => o.2.1 = S ∧ o.2.2 = s) (fun α K => c_X7_hasSlot as S s K) := by
  unfold c_X7_hasSlot
  split
  · exact ge_cond (ge_K ⟨rfl, rfl⟩) (ge_none)
  · exact ge_none
theorem ge_X11_requireSlot (as : List Value) (S : ga_S) (s : ga_M) : ge_N (fun o => o.2.1 = S ∧ o.2.2 = s) (fun α K => c_X11_requireSlot as S s K) := by
  unfold c_X11_requireSlot
  split
  · exact ge_cond (ge_elimO (ge_K ⟨rfl, rfl⟩) (fun _ => ge_K ⟨rfl, rfl⟩)) (ge_none)
  · exact ge_none
theorem ge_X4_againstMove (as : List Value) (S : ga_S) (s : ga_M) : ge_N (fun o => o.2.1 = S ∧ o.2.2 = s) (fun α K => c_X4_againstMove as S s K) := by
  unfold c_X4_againstMove
  split
  · exact ge_cond (ge_bind (fun _ => ge_K ⟨rfl, rfl⟩)) (ge_none)
  · exact ge_none
theorem ge_X2_moveToSlot (as : List Value) (S : ga_S) (s : ga_M) : ge_N (fun o => o.2.1 = S) (fun α K => c_X2_moveToSlot as S s K) := by
  unfold c_X2_moveToSlot
  split
  · exact ge_cond (ge_bind (fun _ => ge_K rfl)) (ge_none)
  · exact ge_none
theorem ge_X11_move (as : List Value) (S : ga_S) (s : ga_M) : ge_N (fun o => o.2.1 = S) (fun α K => c_X11_move as S s K) := by
  unfold c_X11_move
  split
  · exact ge_cond (ge_bind (fun q => ge_elimS (x := q.1) (fun _ => ge_K rfl) (fun _ => ge_K rfl))) (ge_none)
  · exact ge_none
theorem ge_X7_hasRoom (as : List Value) (S : ga_S) (s : ga_M) : ge_N (fun o => o.2.1 = S ∧ o.2.2 = s) (fun α K => c_X7_hasRoom as S s K) := by
  unfold c_X7_hasRoom
  split
  · exact ge_cond (ge_K ⟨rfl, rfl⟩) (ge_none)
  · exact ge_none
theorem ge_X11_requireRoom (as : List Value) (S : ga_S) (s : ga_M) : ge_N (fun o => o.2.1 = S ∧ o.2.2 = s) (fun α K => c_X11_requireRoom as S s K) := by
  unfold c_X11_requireRoom
  split
  · exact ge_cond (ge_elimO (ge_K ⟨rfl, rfl⟩) (fun _ => ge_K ⟨rfl, rfl⟩)) (ge_none)
  · exact ge_none
theorem ge_X4_againstRoom (as : List Value) (S : ga_S) (s : ga_M) : ge_N (fun o => o.2.1 = S ∧ o.2.2 = s) (fun α K => c_X4_againstRoom as S s K) := by
  unfold c_X4_againstRoom
  split
  · exact ge_cond (ge_bind (fun _ => ge_K ⟨rfl, rfl⟩)) (ge_none)
  · exact ge_none
theorem ge_X2_moveToRoom (as : List Value) (S : ga_S) (s : ga_M) : ge_N (fun o => o.2.1 = S) (fun α K => c_X2_moveToRoom as S s K) := by
  unfold c_X2_moveToRoom
  split
  · exact ge_cond (ge_bind (fun _ => ge_K rfl)) (ge_none)
  · exact ge_none
theorem ge_X11_setRoom (as : List Value) (S : ga_S) (s : ga_M) : ge_N (fun o => o.2.1 = S) (fun α K => c_X11_setRoom as S s K) := by
  unfold c_X11_setRoom
  split
  · exact ge_cond (ge_bind (fun q => ge_elimS (x := q.1) (fun _ => ge_K rfl) (fun _ => ge_K rfl))) (ge_none)
  · exact ge_none
theorem ge_X2_openAgain (as : List Value) (S : ga_S) (s : ga_M) : ge_N (fun o => o.2.1 = S) (fun α K => c_X2_openAgain as S s K) := by
  unfold c_X2_openAgain
  split
  · exact ge_cond (ge_K rfl) (ge_none)
  · exact ge_none
theorem ge_X11_reopen (as : List Value) (S : ga_S) (s : ga_M) : ge_N (fun o => o.2.1 = S) (fun α K => c_X11_reopen as S s K) := by
  unfold c_X11_reopen
  split
  · exact ge_cond (ge_bind (fun q => ge_elimS (x := q.1) (fun _ => ge_K rfl) (fun _ => ge_K rfl))) (ge_none)
  · exact ge_none
theorem ge_X3_differs (as : List Value) (S : ga_S) (s : ga_M) : ge_N (fun o => o.2.1 = S ∧ o.2.2 = s) (fun α K => c_X3_differs as S s K) := by
  unfold c_X3_differs
  split
  · exact ge_cond (ge_K ⟨rfl, rfl⟩) (ge_none)
  · exact ge_none
theorem ge_X3_differingLessons (as : List Value) (S : ga_S) (s : ga_M) : ge_N (fun o => o.2.1 = S ∧ o.2.2 = s) (fun α K => c_X3_differingLessons as S s K) := by
  unfold c_X3_differingLessons
  split
  · exact ge_cond (ge_bind (fun _ => ge_K ⟨rfl, rfl⟩)) (ge_none)
  · exact ge_none
theorem ge_X11_reset (as : List Value) (S : ga_S) (s : ga_M) : ge_N (fun o => o.2.1 = S) (fun α K => c_X11_reset as S s K) := by
  unfold c_X11_reset
  split
  · exact ge_cond (ge_bind (fun _ => ge_K rfl)) (ge_none)
  · exact ge_none
theorem ge_X11_whyNotCover (as : List Value) (S : ga_S) (s : ga_M) : ge_N (fun o => o.2.1 = S ∧ o.2.2 = s) (fun α K => c_X11_whyNotCover as S s K) := by
  unfold c_X11_whyNotCover
  split
  · exact ge_cond (ge_bind (fun q => ge_elimS (x := q) (fun _ => ge_K ⟨rfl, rfl⟩) (fun _ => ge_K ⟨rfl, rfl⟩))) (ge_none)
  · exact ge_none
theorem ge_X11_whyNotSupervise (as : List Value) (S : ga_S) (s : ga_M) : ge_N (fun o => o.2.1 = S ∧ o.2.2 = s) (fun α K => c_X11_whyNotSupervise as S s K) := by
  unfold c_X11_whyNotSupervise
  split
  · exact ge_cond (ge_bind (fun q => ge_elimS (x := q) (fun _ => ge_K ⟨rfl, rfl⟩) (fun _ => ge_K ⟨rfl, rfl⟩))) (ge_none)
  · exact ge_none
theorem ge_X11_whyNotExchange (as : List Value) (S : ga_S) (s : ga_M) : ge_N (fun o => o.2.1 = S ∧ o.2.2 = s) (fun α K => c_X11_whyNotExchange as S s K) := by
  unfold c_X11_whyNotExchange
  split
  · exact ge_cond (ge_bind (fun q => ge_elimS (x := q) (fun _ => ge_K ⟨rfl, rfl⟩) (fun _ => ge_K ⟨rfl, rfl⟩))) (ge_none)
  · exact ge_none
theorem ge_X11_whyNotRoom (as : List Value) (S : ga_S) (s : ga_M) : ge_N (fun o => o.2.1 = S ∧ o.2.2 = s) (fun α K => c_X11_whyNotRoom as S s K) := by
  unfold c_X11_whyNotRoom
  split
  · exact ge_cond (ge_bind (fun q => ge_elimS (x := q) (fun _ => ge_K ⟨rfl, rfl⟩) (fun _ => ge_K ⟨rfl, rfl⟩))) (ge_none)
  · exact ge_none
theorem ge_X11_candidates (as : List Value) (S : ga_S) (s : ga_M) : ge_N (fun o => o.2.1 = S ∧ o.2.2 = s) (fun α K => c_X11_candidates as S s K) := by
  unfold c_X11_candidates
  split
  · exact ge_cond (ge_bind (fun q => ge_elimS (x := q) (fun _ => ge_K ⟨rfl, rfl⟩) (fun _ => ge_K ⟨rfl, rfl⟩))) (ge_none)
  · exact ge_none
theorem ge_X11_chain (as : List Value) (S : ga_S) (s : ga_M) : ge_N (fun o => o.2.1 = S) (fun α K => c_X11_chain as S s K) := by
  unfold c_X11_chain
  split
  · exact ge_cond (ge_bind (fun q => ge_elimS (x := q.1) (fun _ => ge_K rfl) (fun _ => ge_K rfl))) (ge_none)
  · exact ge_none
theorem ge_X11_chainTeacher (as : List Value) (S : ga_S) (s : ga_M) : ge_N (fun o => o.2.1 = S) (fun α K => c_X11_chainTeacher as S s K) := by
  unfold c_X11_chainTeacher
  split
  · exact ge_cond (ge_bind (fun q => ge_elimS (x := q.1) (fun _ => ge_K rfl) (fun _ => ge_K rfl))) (ge_none)
  · exact ge_none
theorem ge_X11_slotsFor (as : List Value) (S : ga_S) (s : ga_M) : ge_N (fun o => o.2.1 = S ∧ o.2.2 = s) (fun α K => c_X11_slotsFor as S s K) := by
  unfold c_X11_slotsFor
  split
  · exact ge_cond (ge_bind (fun q => ge_elimS (x := q) (fun _ => ge_K ⟨rfl, rfl⟩) (fun _ => ge_K ⟨rfl, rfl⟩))) (ge_none)
  · exact ge_none
theorem ge_X7_lessonsWith (as : List Value) (S : ga_S) (s : ga_M) : ge_N (fun o => o.2.1 = S ∧ o.2.2 = s) (fun α K => c_X7_lessonsWith as S s K) := by
  unfold c_X7_lessonsWith
  split
  · exact ge_cond (ge_bind (fun _ => ge_K ⟨rfl, rfl⟩)) (ge_cond (ge_bind (fun _ => ge_K ⟨rfl, rfl⟩)) (ge_cond (ge_bind (fun _ => ge_K ⟨rfl, rfl⟩)) (ge_cond (ge_bind (fun _ => ge_K ⟨rfl, rfl⟩)) (ge_cond (ge_bind (fun _ => ge_K ⟨rfl, rfl⟩)) (ge_none)))))
  · exact ge_none
theorem ge_X3_supervisedLessons (as : List Value) (S : ga_S) (s : ga_M) : ge_N (fun o => o.2.1 = S ∧ o.2.2 = s) (fun α K => c_X3_supervisedLessons as S s K) := by
  unfold c_X3_supervisedLessons
  split
  · exact ge_cond (ge_bind (fun _ => ge_K ⟨rfl, rfl⟩)) (ge_none)
  · exact ge_none
theorem ge_X3_openLessons (as : List Value) (S : ga_S) (s : ga_M) : ge_N (fun o => o.2.1 = S ∧ o.2.2 = s) (fun α K => c_X3_openLessons as S s K) := by
  unfold c_X3_openLessons
  split
  · exact ge_cond (ge_bind (fun _ => ge_K ⟨rfl, rfl⟩)) (ge_none)
  · exact ge_none
theorem ge_X11_count (as : List Value) (S : ga_S) (s : ga_M) : ge_N (fun o => o.2.1 = S ∧ o.2.2 = s) (fun α K => c_X11_count as S s K) := by
  unfold c_X11_count
  split
  · exact ge_cond (ge_bind (fun q => ge_elimS (x := q) (fun _ => ge_K ⟨rfl, rfl⟩) (fun _ => ge_K ⟨rfl, rfl⟩))) (ge_none)
  · exact ge_none
theorem ge_X11_lesson (as : List Value) (S : ga_S) (s : ga_M) : ge_N (fun o => o.2.1 = S ∧ o.2.2 = s) (fun α K => c_X11_lesson as S s K) := by
  unfold c_X11_lesson
  split
  · exact ge_cond (ge_bind (fun q => ge_elimS (x := q) (fun _ => ge_K ⟨rfl, rfl⟩) (fun _ => ge_K ⟨rfl, rfl⟩))) (ge_none)
  · exact ge_none
theorem ge_X3_taughtBy (as : List Value) (S : ga_S) (s : ga_M) : ge_N (fun o => o.2.1 = S ∧ o.2.2 = s) (fun α K => c_X3_taughtBy as S s K) := by
  unfold c_X3_taughtBy
  split
  · exact ge_cond (ge_bind (fun _ => ge_K ⟨rfl, rfl⟩)) (ge_none)
  · exact ge_none
theorem ge_X11_teacher (as : List Value) (S : ga_S) (s : ga_M) : ge_N (fun o => o.2.1 = S ∧ o.2.2 = s) (fun α K => c_X11_teacher as S s K) := by
  unfold c_X11_teacher
  split
  · exact ge_cond (ge_bind (fun q => ge_elimS (x := q) (fun _ => ge_K ⟨rfl, rfl⟩) (fun _ => ge_K ⟨rfl, rfl⟩))) (ge_none)
  · exact ge_none
theorem ge_X11_room (as : List Value) (S : ga_S) (s : ga_M) : ge_N (fun o => o.2.1 = S ∧ o.2.2 = s) (fun α K => c_X11_room as S s K) := by
  unfold c_X11_room
  split
  · exact ge_cond (ge_bind (fun q => ge_elimS (x := q) (fun _ => ge_K ⟨rfl, rfl⟩) (fun _ => ge_K ⟨rfl, rfl⟩))) (ge_none)
  · exact ge_none
theorem ge_X11_subject (as : List Value) (S : ga_S) (s : ga_M) : ge_N (fun o => o.2.1 = S ∧ o.2.2 = s) (fun α K => c_X11_subject as S s K) := by
  unfold c_X11_subject
  split
  · exact ge_cond (ge_bind (fun q => ge_elimS (x := q) (fun _ => ge_K ⟨rfl, rfl⟩) (fun _ => ge_K ⟨rfl, rfl⟩))) (ge_none)
  · exact ge_none
theorem ge_X11_requireClass (as : List Value) (S : ga_S) (s : ga_M) : ge_N (fun o => o.2.1 = S ∧ o.2.2 = s) (fun α K => c_X11_requireClass as S s K) := by
  unfold c_X11_requireClass
  split
  · exact ge_cond (ge_elimO (ge_K ⟨rfl, rfl⟩) (fun _ => ge_K ⟨rfl, rfl⟩)) (ge_none)
  · exact ge_none
theorem ge_X11_lessonOfClass (as : List Value) (S : ga_S) (s : ga_M) : ge_N (fun o => o.2.1 = S ∧ o.2.2 = s) (fun α K => c_X11_lessonOfClass as S s K) := by
  unfold c_X11_lessonOfClass
  split
  · exact ge_cond (ge_bind (fun q => ge_elimS (x := q) (fun _ => ge_K ⟨rfl, rfl⟩) (fun _ => ge_K ⟨rfl, rfl⟩))) (ge_none)
  · exact ge_none
theorem ge_X11_lessonOfTeacher (as : List Value) (S : ga_S) (s : ga_M) : ge_N (fun o => o.2.1 = S ∧ o.2.2 = s) (fun α K => c_X11_lessonOfTeacher as S s K) := by
  unfold c_X11_lessonOfTeacher
  split
  · exact ge_cond (ge_bind (fun q => ge_elimS (x := q) (fun _ => ge_K ⟨rfl, rfl⟩) (fun _ => ge_K ⟨rfl, rfl⟩))) (ge_none)
  · exact ge_none
theorem ge_X11_lessonInRoom (as : List Value) (S : ga_S) (s : ga_M) : ge_N (fun o => o.2.1 = S ∧ o.2.2 = s) (fun α K => c_X11_lessonInRoom as S s K) := by
  unfold c_X11_lessonInRoom
  split
  · exact ge_cond (ge_bind (fun q => ge_elimS (x := q) (fun _ => ge_K ⟨rfl, rfl⟩) (fun _ => ge_K ⟨rfl, rfl⟩))) (ge_none)
  · exact ge_none
theorem ge_X11_freeTeachers (as : List Value) (S : ga_S) (s : ga_M) : ge_N (fun o => o.2.1 = S ∧ o.2.2 = s) (fun α K => c_X11_freeTeachers as S s K) := by
  unfold c_X11_freeTeachers
  split
  · exact ge_cond (ge_bind (fun q => ge_elimS (x := q) (fun _ => ge_K ⟨rfl, rfl⟩) (fun _ => ge_K ⟨rfl, rfl⟩))) (ge_none)
  · exact ge_none
theorem ge_X11_freeRooms (as : List Value) (S : ga_S) (s : ga_M) : ge_N (fun o => o.2.1 = S ∧ o.2.2 = s) (fun α K => c_X11_freeRooms as S s K) := by
  unfold c_X11_freeRooms
  split
  · exact ge_cond (ge_bind (fun q => ge_elimS (x := q) (fun _ => ge_K ⟨rfl, rfl⟩) (fun _ => ge_K ⟨rfl, rfl⟩))) (ge_none)
  · exact ge_none
theorem ge_X3_windowsOf (as : List Value) (S : ga_S) (s : ga_M) : ge_N (fun o => o.2.1 = S ∧ o.2.2 = s) (fun α K => c_X3_windowsOf as S s K) := by
  unfold c_X3_windowsOf
  split
  · exact ge_cond (ge_bind (fun _ => ge_K ⟨rfl, rfl⟩)) (ge_none)
  · exact ge_none
theorem ge_X11_windows (as : List Value) (S : ga_S) (s : ga_M) : ge_N (fun o => o.2.1 = S ∧ o.2.2 = s) (fun α K => c_X11_windows as S s K) := by
  unfold c_X11_windows
  split
  · exact ge_cond (ge_bind (fun q => ge_elimS (x := q) (fun _ => ge_K ⟨rfl, rfl⟩) (fun _ => ge_K ⟨rfl, rfl⟩))) (ge_none)
  · exact ge_none
theorem ge_J9_max_7cf53 (as : List Value) (S : ga_S) (s : ga_M) : ge_N (fun o => o.2.1 = S ∧ o.2.2 = s) (fun α K => c_J9_max_7cf53 as S s K) := by
  unfold c_J9_max_7cf53
  split
  · exact ge_K ⟨rfl, rfl⟩
  · exact ge_none
theorem ge_X11_spread (as : List Value) (S : ga_S) (s : ga_M) : ge_N (fun o => o.2.1 = S ∧ o.2.2 = s) (fun α K => c_X11_spread as S s K) := by
  unfold c_X11_spread
  split
  · exact ge_cond (ge_bind (fun _ => ge_K ⟨rfl, rfl⟩)) (ge_none)
  · exact ge_none
theorem ge_X3_taughtLessons (as : List Value) (S : ga_S) (s : ga_M) : ge_N (fun o => o.2.1 = S ∧ o.2.2 = s) (fun α K => c_X3_taughtLessons as S s K) := by
  unfold c_X3_taughtLessons
  split
  · exact ge_cond (ge_bind (fun _ => ge_K ⟨rfl, rfl⟩)) (ge_none)
  · exact ge_none
theorem ge_X11_taughtShare (as : List Value) (S : ga_S) (s : ga_M) : ge_N (fun o => o.2.1 = S ∧ o.2.2 = s) (fun α K => c_X11_taughtShare as S s K) := by
  unfold c_X11_taughtShare
  split
  · exact ge_cond (ge_bind (fun _ => ge_K ⟨rfl, rfl⟩)) (ge_none)
  · exact ge_none
theorem ge_X5_append (as : List Value) (S : ga_S) (s : ga_M) : ge_N (fun o => o.2.1 = S) (fun α K => c_X5_append as S s K) := by
  unfold c_X5_append
  split
  · exact ge_cond (ge_K rfl) (ge_none)
  · exact ge_none
theorem ge_X5_writeLesson (as : List Value) (S : ga_S) (s : ga_M) : ge_N (fun o => o.2.1 = S) (fun α K => c_X5_writeLesson as S s K) := by
  unfold c_X5_writeLesson
  split
  · exact ge_cond (ge_K rfl) (ge_none)
  · exact ge_none
theorem ge_X5_write (as : List Value) (S : ga_S) (s : ga_M) : ge_N (fun o => o.2.1 = S) (fun α K => c_X5_write as S s K) := by
  unfold c_X5_write
  split
  · exact ge_cond (ge_bind (fun _ => ge_K rfl)) (ge_none)
  · exact ge_none
theorem ge_X11_writeReport (as : List Value) (S : ga_S) (s : ga_M) : ge_N (fun o => o.2.1 = S) (fun α K => c_X11_writeReport as S s K) := by
  unfold c_X11_writeReport
  split
  · exact ge_cond (ge_bind (fun q => ge_elimS (x := q.1) (fun _ => ge_K rfl) (fun _ => ge_K rfl))) (ge_none)
  · exact ge_none
theorem ge_X1_restoreMarked (as : List Value) (S : ga_S) (s : ga_M) : ge_N (fun o => o.2.1 = S) (fun α K => c_X1_restoreMarked as S s K) := by
  unfold c_X1_restoreMarked
  split
  · exact ge_cond (ge_bind (fun _ => ge_K rfl)) (ge_none)
  · exact ge_none
theorem ge_X1_restoreLatest (as : List Value) (S : ga_S) (s : ga_M) : ge_N (fun o => o.2.1 = S) (fun α K => c_X1_restoreLatest as S s K) := by
  unfold c_X1_restoreLatest
  split
  · exact ge_cond (ge_bind (fun _ => ge_K rfl)) (ge_none)
  · exact ge_none
theorem ge_X11_undo (as : List Value) (S : ga_S) (s : ga_M) : ge_N (fun o => o.2.1 = S) (fun α K => c_X11_undo as S s K) := by
  unfold c_X11_undo
  split
  · exact ge_cond (ge_bind (fun q => ge_elimS (x := q.1) (fun _ => ge_K rfl) (fun _ => ge_K rfl))) (ge_none)
  · exact ge_none
theorem ge_X11_undoDepth (as : List Value) (S : ga_S) (s : ga_M) : ge_N (fun o => o.2.1 = S ∧ o.2.2 = s) (fun α K => c_X11_undoDepth as S s K) := by
  unfold c_X11_undoDepth
  split
  · exact ge_cond (ge_K ⟨rfl, rfl⟩) (ge_none)
  · exact ge_none
theorem ge_X7_becomeSample (as : List Value) (S : ga_S) (s : ga_M) : ge_N (fun o => o.2.1 = S) (fun α K => c_X7_becomeSample as S s K) := by
  unfold c_X7_becomeSample
  split
  · exact ge_cond (ge_K rfl) (ge_none)
  · exact ge_none
theorem ge_L_cover (as : List Value) (S : ga_S) (s : ga_M) : ge_N (fun o => o.2.1 = S) (fun α K => c_L_cover as S s K) := by
  unfold c_L_cover
  split
  · exact ge_cond (ge_bind (fun q => ge_elimS (x := q.1) (fun _ => ge_K rfl) (fun _ => ge_K rfl))) (ge_none)
  · exact ge_none
theorem ge_L_supervise (as : List Value) (S : ga_S) (s : ga_M) : ge_N (fun o => o.2.1 = S) (fun α K => c_L_supervise as S s K) := by
  unfold c_L_supervise
  split
  · exact ge_cond (ge_bind (fun q => ge_elimS (x := q.1) (fun _ => ge_K rfl) (fun _ => ge_K rfl))) (ge_none)
  · exact ge_none
theorem ge_L_repair (as : List Value) (S : ga_S) (s : ga_M) : ge_N (fun o => o.2.1 = S) (fun α K => c_L_repair as S s K) := by
  unfold c_L_repair
  split
  · exact ge_cond (ge_bind (fun q => ge_elimS (x := q.1) (fun _ => ge_K rfl) (fun _ => ge_K rfl))) (ge_none)
  · exact ge_none
theorem ge_L_exchange (as : List Value) (S : ga_S) (s : ga_M) : ge_N (fun o => o.2.1 = S) (fun α K => c_L_exchange as S s K) := by
  unfold c_L_exchange
  split
  · exact ge_cond (ge_bind (fun q => ge_elimS (x := q.1) (fun _ => ge_K rfl) (fun _ => ge_K rfl))) (ge_none)
  · exact ge_none
theorem ge_L_move (as : List Value) (S : ga_S) (s : ga_M) : ge_N (fun o => o.2.1 = S) (fun α K => c_L_move as S s K) := by
  unfold c_L_move
  split
  · exact ge_cond (ge_bind (fun q => ge_elimS (x := q.1) (fun _ => ge_K rfl) (fun _ => ge_K rfl))) (ge_none)
  · exact ge_none
theorem ge_L_setRoom (as : List Value) (S : ga_S) (s : ga_M) : ge_N (fun o => o.2.1 = S) (fun α K => c_L_setRoom as S s K) := by
  unfold c_L_setRoom
  split
  · exact ge_cond (ge_bind (fun q => ge_elimS (x := q.1) (fun _ => ge_K rfl) (fun _ => ge_K rfl))) (ge_none)
  · exact ge_none
theorem ge_L_reopen (as : List Value) (S : ga_S) (s : ga_M) : ge_N (fun o => o.2.1 = S) (fun α K => c_L_reopen as S s K) := by
  unfold c_L_reopen
  split
  · exact ge_cond (ge_bind (fun q => ge_elimS (x := q.1) (fun _ => ge_K rfl) (fun _ => ge_K rfl))) (ge_none)
  · exact ge_none
theorem ge_X6_at (as : List Value) (S : ga_S) (s : ga_M) : ge_N (fun o => o.2.1 = S ∧ o.2.2 = s) (fun α K => c_X6_at as S s K) := by
  unfold c_X6_at
  repeat' split
  all_goals first | exact ge_none | exact ge_K ⟨rfl, rfl⟩
theorem ge_X6_put (as : List Value) (S : ga_S) (s : ga_M) : ge_N (fun o => o.2.1 = S) (fun α K => c_X6_put as S s K) := by
  unfold c_X6_put
  repeat' split
  all_goals first | exact ge_none | exact ge_K rfl
theorem ge_X6_become (as : List Value) (S : ga_S) (s : ga_M) : ge_N (fun o => o.2.1 = S) (fun α K => c_X6_become as S s K) := by
  unfold c_X6_become
  repeat' split
  all_goals first | exact ge_none | exact ge_K rfl
theorem ge_J0_length_8abf5 (as : List Value) (S : ga_S) (s : ga_M) : ge_N (fun o => o.2.1 = S ∧ o.2.2 = s) (fun α K => c_J0_length_8abf5 as S s K) := by
  unfold c_J0_length_8abf5
  split
  · exact ge_bind (fun _ => ge_K ⟨rfl, rfl⟩)
  · exact ge_none
theorem ge_J0_charAt_5068e (as : List Value) (S : ga_S) (s : ga_M) : ge_N (fun o => o.2.1 = S ∧ o.2.2 = s) (fun α K => c_J0_charAt_5068e as S s K) := by
  unfold c_J0_charAt_5068e
  split
  · exact ge_bind (fun _ => ge_K ⟨rfl, rfl⟩)
  · exact ge_none
theorem ge_G (mid : Nat) (as : List Value) (S : ga_S) (s : ga_M) : ge_N (fun o => o.2.1 = S) (fun α K => gaG α mid as S s K) := ge_cond (ge_cond (ge_cond (ge_cond (ge_cond (ge_cond (ge_cond (ge_cond (ge_mono (ge_X6_at as S s) (fun _ h => h.1)) ge_none) (ge_cond (ge_X6_put as S s) ge_none)) (ge_cond (ge_cond (ge_X6_become as S s) ge_none) (ge_cond (ge_mono (ge_J0_length_8abf5 as S s) (fun _ h => h.1)) ge_none))) (ge_cond (ge_cond (ge_cond (ge_mono (ge_J0_charAt_5068e as S s) (fun _ h => h.1)) ge_none) (ge_cond (ge_X10_append as S s) ge_none)) (ge_cond (ge_cond (ge_X7_becomeEmpty as S s) ge_none) (ge_cond (ge_cond (ge_mono (ge_X10_afterBlanks as S s) (fun _ h => h.1)) ge_none) (ge_cond (ge_mono (ge_X10_isLetter as S s) (fun _ h => h.1)) ge_none))))) (ge_cond (ge_cond (ge_cond (ge_cond (ge_mono (ge_X10_isDigit as S s) (fun _ h => h.1)) ge_none) (ge_cond (ge_mono (ge_J9_min_7cf53 as S s) (fun _ h => h.1)) ge_none)) (ge_cond (ge_cond (ge_X10_afterDigits as S s) ge_none) (ge_cond (ge_cond (ge_mono (ge_X10_afterLetters as S s) (fun _ h => h.1)) ge_none) (ge_cond (ge_X10_next as S s) ge_none)))) (ge_cond (ge_cond (ge_cond (ge_X10_begin as S s) ge_none) (ge_cond (ge_mono (ge_X10_isWord as S s) (fun _ h => h.1)) ge_none)) (ge_cond (ge_cond (ge_X10_fail as S s) ge_none) (ge_cond (ge_cond (ge_X8_fail as S s) ge_none) (ge_cond (ge_X8_takeWord as S s) ge_none)))))) (ge_cond (ge_cond (ge_cond (ge_cond (ge_cond (ge_X8_checkNumber as S s) ge_none) (ge_cond (ge_X8_takeNumber as S s) ge_none)) (ge_cond (ge_cond (ge_X8_takeSemicolon as S s) ge_none) (ge_cond (ge_cond (ge_X8_readGrid as S s) ge_none) (ge_cond (ge_X7_addSubject as S s) ge_none)))) (ge_cond (ge_cond (ge_cond (ge_X8_readSubjects as S s) ge_none) (ge_cond (ge_X7_addTeacher as S s) ge_none)) (ge_cond (ge_cond (ge_mono (ge_X11_hasBit as S s) (fun _ h => h.1)) ge_none) (ge_cond (ge_cond (ge_X8_readTeacher as S s) ge_none) (ge_cond (ge_X8_readTeachers as S s) ge_none))))) (ge_cond (ge_cond (ge_cond (ge_cond (ge_X7_addRoom as S s) ge_none) (ge_cond (ge_X8_readRooms as S s) ge_none)) (ge_cond (ge_cond (ge_X8_readClasses as S s) ge_none) (ge_cond (ge_cond (ge_mono (ge_X7_slots as S s) (fun _ h => h.1)) ge_none) (ge_cond (ge_mono (ge_X7_isTakenAtFirst as S s) (fun _ h => h.1)) ge_none)))) (ge_cond (ge_cond (ge_cond (ge_X8_checkUntaken as S s) ge_none) (ge_cond (ge_mono (ge_X7_hasTeacher as S s) (fun _ h => h.1)) ge_none)) (ge_cond (ge_cond (ge_mono (ge_X7_isQualified as S s) (fun _ h => h.1)) ge_none) (ge_cond (ge_cond (ge_X7_addLesson as S s) ge_none) (ge_cond (ge_X8_readLesson as S s) ge_none))))))) (ge_cond (ge_cond (ge_cond (ge_cond (ge_cond (ge_cond (ge_X8_readLessons as S s) ge_none) (ge_cond (ge_X8_read as S s) ge_none)) (ge_cond (ge_cond (ge_X7_become as S s) ge_none) (ge_cond (ge_mono (ge_X7_dayOf as S s) (fun _ h => h.1)) ge_none))) (ge_cond (ge_cond (ge_cond (ge_mono (ge_X3_isAway as S s) (fun _ h => h.1)) ge_none) (ge_cond (ge_mono (ge_X3_isAwayAt as S s) (fun _ h => h.1)) ge_none)) (ge_cond (ge_cond (ge_X3_returnToFirst as S s) ge_none) (ge_cond (ge_cond (ge_X3_begin as S s) ge_none) (ge_cond (ge_X1_forget as S s) ge_none))))) (ge_cond (ge_cond (ge_cond (ge_cond (ge_X11_parseSchool as S s) ge_none) (ge_cond (ge_mono (ge_X7_hasDay as S s) (fun _ h => h.1)) ge_none)) (ge_cond (ge_cond (ge_mono (ge_X1_baseOf as S s) (fun _ h => h.1)) ge_none) (ge_cond (ge_cond (ge_X1_mark as S s) ge_none) (ge_cond (ge_X3_makeOpen as S s) ge_none)))) (ge_cond (ge_cond (ge_cond (ge_X2_letBeAbsent as S s) ge_none) (ge_cond (ge_X1_keepMarked as S s) ge_none)) (ge_cond (ge_cond (ge_mono (ge_X7_hasLesson as S s) (fun _ h => h.1)) ge_none) (ge_cond (ge_cond (ge_mono (ge_X3_isTaught as S s) (fun _ h => h.1)) ge_none) (ge_cond (ge_mono (ge_X3_lessonAt as S s) (fun _ h => h.1)) ge_none)))))) (ge_cond (ge_cond (ge_cond (ge_cond (ge_cond (ge_mono (ge_X4_isBusy as S s) (fun _ h => h.1)) ge_none) (ge_cond (ge_mono (ge_X3_loadOf as S s) (fun _ h => h.1)) ge_none)) (ge_cond (ge_cond (ge_mono (ge_X4_againstCover as S s) (fun _ h => h.1)) ge_none) (ge_cond (ge_cond (ge_X3_letTeach as S s) ge_none) (ge_cond (ge_X2_letCover as S s) ge_none)))) (ge_cond (ge_cond (ge_cond (ge_mono (ge_X3_isOpen as S s) (fun _ h => h.1)) ge_none) (ge_cond (ge_mono (ge_X3_isSupervised as S s) (fun _ h => h.1)) ge_none)) (ge_cond (ge_cond (ge_mono (ge_X3_dutiesOn as S s) (fun _ h => h.1)) ge_none) (ge_cond (ge_cond (ge_mono (ge_X4_againstSupervision as S s) (fun _ h => h.1)) ge_none) (ge_cond (ge_X3_letWatch as S s) ge_none))))) (ge_cond (ge_cond (ge_cond (ge_cond (ge_X2_letSupervise as S s) ge_none) (ge_cond (ge_mono (ge_X3_dutiesOf as S s) (fun _ h => h.1)) ge_none)) (ge_cond (ge_cond (ge_mono (ge_X0_presentAt as S s) (fun _ h => h.1)) ge_none) (ge_cond (ge_cond (ge_mono (ge_X7_qualifiedFor as S s) (fun _ h => h.1)) ge_none) (ge_cond (ge_X0_busyAt as S s) ge_none)))) (ge_cond (ge_cond (ge_cond (ge_mono (ge_X0_leastLoaded as S s) (fun _ h => h.1)) ge_none) (ge_cond (ge_mono (ge_X0_successorsOf as S s) (fun _ h => h.1)) ge_none)) (ge_cond (ge_cond (ge_mono (ge_X0_thoseBefore as S s) (fun _ h => h.1)) ge_none) (ge_cond (ge_cond (ge_mono (ge_X0_lowest as S s) (fun _ h => h.1)) ge_none) (ge_cond (ge_X0_choose as S s) ge_none)))))))) (ge_cond (ge_cond (ge_cond (ge_cond (ge_cond (ge_cond (ge_cond (ge_X0_find as S s) ge_none) (ge_cond (ge_X2_repairByChain as S s) ge_none)) (ge_cond (ge_cond (ge_X2_repairOpenLessons as S s) ge_none) (ge_cond (ge_X11_repairAll as S s) ge_none))) (ge_cond (ge_cond (ge_cond (ge_mono (ge_X4_isTeacherAwayAt as S s) (fun _ h => h.1)) ge_none) (ge_cond (ge_mono (ge_X4_isHeldByThird as S s) (fun _ h => h.1)) ge_none)) (ge_cond (ge_cond (ge_mono (ge_X4_againstExchange as S s) (fun _ h => h.1)) ge_none) (ge_cond (ge_cond (ge_X2_swapSlots as S s) ge_none) (ge_cond (ge_mono (ge_X7_hasSlot as S s) (fun _ h => h.1)) ge_none))))) (ge_cond (ge_cond (ge_cond (ge_cond (ge_mono (ge_X4_againstMove as S s) (fun _ h => h.1)) ge_none) (ge_cond (ge_X2_moveToSlot as S s) ge_none)) (ge_cond (ge_cond (ge_mono (ge_X7_hasRoom as S s) (fun _ h => h.1)) ge_none) (ge_cond (ge_cond (ge_mono (ge_X4_againstRoom as S s) (fun _ h => h.1)) ge_none) (ge_cond (ge_X2_moveToRoom as S s) ge_none)))) (ge_cond (ge_cond (ge_cond (ge_X2_openAgain as S s) ge_none) (ge_cond (ge_mono (ge_X3_differs as S s) (fun _ h => h.1)) ge_none)) (ge_cond (ge_cond (ge_mono (ge_X3_differingLessons as S s) (fun _ h => h.1)) ge_none) (ge_cond (ge_cond (ge_X11_reset as S s) ge_none) (ge_cond (ge_mono (ge_X7_lessonsWith as S s) (fun _ h => h.1)) ge_none)))))) (ge_cond (ge_cond (ge_cond (ge_cond (ge_cond (ge_mono (ge_X3_supervisedLessons as S s) (fun _ h => h.1)) ge_none) (ge_cond (ge_mono (ge_X3_openLessons as S s) (fun _ h => h.1)) ge_none)) (ge_cond (ge_cond (ge_mono (ge_X3_taughtBy as S s) (fun _ h => h.1)) ge_none) (ge_cond (ge_cond (ge_mono (ge_X3_windowsOf as S s) (fun _ h => h.1)) ge_none) (ge_cond (ge_mono (ge_J9_max_7cf53 as S s) (fun _ h => h.1)) ge_none)))) (ge_cond (ge_cond (ge_cond (ge_mono (ge_X11_spread as S s) (fun _ h => h.1)) ge_none) (ge_cond (ge_mono (ge_X3_taughtLessons as S s) (fun _ h => h.1)) ge_none)) (ge_cond (ge_cond (ge_mono (ge_X11_taughtShare as S s) (fun _ h => h.1)) ge_none) (ge_cond (ge_cond (ge_X5_append as S s) ge_none) (ge_cond (ge_X5_writeLesson as S s) ge_none))))) (ge_cond (ge_cond (ge_cond (ge_cond (ge_X5_write as S s) ge_none) (ge_cond (ge_X1_restoreMarked as S s) ge_none)) (ge_cond (ge_cond (ge_X1_restoreLatest as S s) ge_none) (ge_cond (ge_cond (ge_mono (ge_X11_undoDepth as S s) (fun _ h => h.1)) ge_none) (ge_cond (ge_X7_becomeSample as S s) ge_none)))) (ge_cond (ge_cond (ge_cond (ge_X11_appendText as S s) ge_none) (ge_cond (ge_X11_truncateText as S s) ge_none)) (ge_cond (ge_cond (ge_mono (ge_X11_requireTeacher as S s) (fun _ h => h.1)) ge_none) (ge_cond (ge_cond (ge_mono (ge_X11_requireDay as S s) (fun _ h => h.1)) ge_none) (ge_cond (ge_X11_setAbsent as S s) ge_none))))))) (ge_cond (ge_cond (ge_cond (ge_cond (ge_cond (ge_cond (ge_mono (ge_X11_requireLesson as S s) (fun _ h => h.1)) ge_none) (ge_cond (ge_X11_keepUnlessRefused as S s) ge_none)) (ge_cond (ge_cond (ge_X11_cover as S s) ge_none) (ge_cond (ge_cond (ge_X11_supervise as S s) ge_none) (ge_cond (ge_X11_repair as S s) ge_none)))) (ge_cond (ge_cond (ge_cond (ge_X11_exchange as S s) ge_none) (ge_cond (ge_mono (ge_X11_requireSlot as S s) (fun _ h => h.1)) ge_none)) (ge_cond (ge_cond (ge_X11_move as S s) ge_none) (ge_cond (ge_cond (ge_mono (ge_X11_requireRoom as S s) (fun _ h => h.1)) ge_none) (ge_cond (ge_X11_setRoom as S s) ge_none))))) (ge_cond (ge_cond (ge_cond (ge_cond (ge_X11_reopen as S s) ge_none) (ge_cond (ge_mono (ge_X11_whyNotCover as S s) (fun _ h => h.1)) ge_none)) (ge_cond (ge_cond (ge_mono (ge_X11_whyNotSupervise as S s) (fun _ h => h.1)) ge_none) (ge_cond (ge_cond (ge_mono (ge_X11_whyNotExchange as S s) (fun _ h => h.1)) ge_none) (ge_cond (ge_mono (ge_X11_whyNotRoom as S s) (fun _ h => h.1)) ge_none)))) (ge_cond (ge_cond (ge_cond (ge_mono (ge_X11_candidates as S s) (fun _ h => h.1)) ge_none) (ge_cond (ge_X11_chain as S s) ge_none)) (ge_cond (ge_cond (ge_X11_chainTeacher as S s) ge_none) (ge_cond (ge_cond (ge_mono (ge_X11_slotsFor as S s) (fun _ h => h.1)) ge_none) (ge_cond (ge_mono (ge_X11_count as S s) (fun _ h => h.1)) ge_none)))))) (ge_cond (ge_cond (ge_cond (ge_cond (ge_cond (ge_mono (ge_X11_lesson as S s) (fun _ h => h.1)) ge_none) (ge_cond (ge_mono (ge_X11_teacher as S s) (fun _ h => h.1)) ge_none)) (ge_cond (ge_cond (ge_mono (ge_X11_room as S s) (fun _ h => h.1)) ge_none) (ge_cond (ge_cond (ge_mono (ge_X11_subject as S s) (fun _ h => h.1)) ge_none) (ge_cond (ge_mono (ge_X11_requireClass as S s) (fun _ h => h.1)) ge_none)))) (ge_cond (ge_cond (ge_cond (ge_mono (ge_X11_lessonOfClass as S s) (fun _ h => h.1)) ge_none) (ge_cond (ge_mono (ge_X11_lessonOfTeacher as S s) (fun _ h => h.1)) ge_none)) (ge_cond (ge_cond (ge_mono (ge_X11_lessonInRoom as S s) (fun _ h => h.1)) ge_none) (ge_cond (ge_cond (ge_mono (ge_X11_freeTeachers as S s) (fun _ h => h.1)) ge_none) (ge_cond (ge_mono (ge_X11_freeRooms as S s) (fun _ h => h.1)) ge_none))))) (ge_cond (ge_cond (ge_cond (ge_cond (ge_mono (ge_X11_windows as S s) (fun _ h => h.1)) ge_none) (ge_cond (ge_X11_writeReport as S s) ge_none)) (ge_cond (ge_cond (ge_X11_undo as S s) ge_none) (ge_cond (ge_cond (ge_L_cover as S s) ge_none) (ge_cond (ge_L_supervise as S s) ge_none)))) (ge_cond (ge_cond (ge_cond (ge_L_repair as S s) ge_none) (ge_cond (ge_L_exchange as S s) ge_none)) (ge_cond (ge_cond (ge_L_move as S s) ge_none) (ge_cond (ge_cond (ge_L_setRoom as S s) ge_none) (ge_cond (ge_L_reopen as S s) ge_none))))))))
theorem ge_GP (mid : Nat) (as : List Value) (S : ga_S) (s : ga_M) : ge_N (fun o => o.2.1 = S ∧ o.2.2 = s) (fun α K => gaGP α mid as S s K) := ge_cond (ge_cond (ge_cond (ge_cond (ge_cond (ge_cond (ge_cond (ge_X6_at as S s) ge_none) (ge_cond (ge_J0_length_8abf5 as S s) ge_none)) (ge_cond (ge_cond (ge_J0_charAt_5068e as S s) ge_none) (ge_cond (ge_X10_afterBlanks as S s) ge_none))) (ge_cond (ge_cond (ge_cond (ge_X10_isLetter as S s) ge_none) (ge_cond (ge_X10_isDigit as S s) ge_none)) (ge_cond (ge_cond (ge_J9_min_7cf53 as S s) ge_none) (ge_cond (ge_cond (ge_X10_afterLetters as S s) ge_none) (ge_cond (ge_X10_isWord as S s) ge_none))))) (ge_cond (ge_cond (ge_cond (ge_cond (ge_X11_hasBit as S s) ge_none) (ge_cond (ge_X7_slots as S s) ge_none)) (ge_cond (ge_cond (ge_X7_isTakenAtFirst as S s) ge_none) (ge_cond (ge_cond (ge_X7_hasTeacher as S s) ge_none) (ge_cond (ge_X7_isQualified as S s) ge_none)))) (ge_cond (ge_cond (ge_cond (ge_X7_dayOf as S s) ge_none) (ge_cond (ge_X3_isAway as S s) ge_none)) (ge_cond (ge_cond (ge_X3_isAwayAt as S s) ge_none) (ge_cond (ge_cond (ge_X7_hasDay as S s) ge_none) (ge_cond (ge_X1_baseOf as S s) ge_none)))))) (ge_cond (ge_cond (ge_cond (ge_cond (ge_cond (ge_X7_hasLesson as S s) ge_none) (ge_cond (ge_X3_isTaught as S s) ge_none)) (ge_cond (ge_cond (ge_X3_lessonAt as S s) ge_none) (ge_cond (ge_cond (ge_X4_isBusy as S s) ge_none) (ge_cond (ge_X3_loadOf as S s) ge_none)))) (ge_cond (ge_cond (ge_cond (ge_X4_againstCover as S s) ge_none) (ge_cond (ge_X3_isOpen as S s) ge_none)) (ge_cond (ge_cond (ge_X3_isSupervised as S s) ge_none) (ge_cond (ge_cond (ge_X3_dutiesOn as S s) ge_none) (ge_cond (ge_X4_againstSupervision as S s) ge_none))))) (ge_cond (ge_cond (ge_cond (ge_cond (ge_X3_dutiesOf as S s) ge_none) (ge_cond (ge_X0_presentAt as S s) ge_none)) (ge_cond (ge_cond (ge_X7_qualifiedFor as S s) ge_none) (ge_cond (ge_cond (ge_X0_leastLoaded as S s) ge_none) (ge_cond (ge_X0_successorsOf as S s) ge_none)))) (ge_cond (ge_cond (ge_cond (ge_X0_thoseBefore as S s) ge_none) (ge_cond (ge_X0_lowest as S s) ge_none)) (ge_cond (ge_cond (ge_X4_isTeacherAwayAt as S s) ge_none) (ge_cond (ge_cond (ge_X4_isHeldByThird as S s) ge_none) (ge_cond (ge_X4_againstExchange as S s) ge_none))))))) (ge_cond (ge_cond (ge_cond (ge_cond (ge_cond (ge_cond (ge_X7_hasSlot as S s) ge_none) (ge_cond (ge_X4_againstMove as S s) ge_none)) (ge_cond (ge_cond (ge_X7_hasRoom as S s) ge_none) (ge_cond (ge_X4_againstRoom as S s) ge_none))) (ge_cond (ge_cond (ge_cond (ge_X3_differs as S s) ge_none) (ge_cond (ge_X3_differingLessons as S s) ge_none)) (ge_cond (ge_cond (ge_X7_lessonsWith as S s) ge_none) (ge_cond (ge_cond (ge_X3_supervisedLessons as S s) ge_none) (ge_cond (ge_X3_openLessons as S s) ge_none))))) (ge_cond (ge_cond (ge_cond (ge_cond (ge_X3_taughtBy as S s) ge_none) (ge_cond (ge_X3_windowsOf as S s) ge_none)) (ge_cond (ge_cond (ge_J9_max_7cf53 as S s) ge_none) (ge_cond (ge_cond (ge_X11_spread as S s) ge_none) (ge_cond (ge_X3_taughtLessons as S s) ge_none)))) (ge_cond (ge_cond (ge_cond (ge_X11_taughtShare as S s) ge_none) (ge_cond (ge_X11_undoDepth as S s) ge_none)) (ge_cond (ge_cond (ge_X11_requireTeacher as S s) ge_none) (ge_cond (ge_cond (ge_X11_requireDay as S s) ge_none) (ge_cond (ge_X11_requireLesson as S s) ge_none)))))) (ge_cond (ge_cond (ge_cond (ge_cond (ge_cond (ge_X11_requireSlot as S s) ge_none) (ge_cond (ge_X11_requireRoom as S s) ge_none)) (ge_cond (ge_cond (ge_X11_whyNotCover as S s) ge_none) (ge_cond (ge_cond (ge_X11_whyNotSupervise as S s) ge_none) (ge_cond (ge_X11_whyNotExchange as S s) ge_none)))) (ge_cond (ge_cond (ge_cond (ge_X11_whyNotRoom as S s) ge_none) (ge_cond (ge_X11_candidates as S s) ge_none)) (ge_cond (ge_cond (ge_X11_slotsFor as S s) ge_none) (ge_cond (ge_cond (ge_X11_count as S s) ge_none) (ge_cond (ge_X11_lesson as S s) ge_none))))) (ge_cond (ge_cond (ge_cond (ge_cond (ge_X11_teacher as S s) ge_none) (ge_cond (ge_X11_room as S s) ge_none)) (ge_cond (ge_cond (ge_X11_subject as S s) ge_none) (ge_cond (ge_cond (ge_X11_requireClass as S s) ge_none) (ge_cond (ge_X11_lessonOfClass as S s) ge_none)))) (ge_cond (ge_cond (ge_cond (ge_X11_lessonOfTeacher as S s) ge_none) (ge_cond (ge_X11_lessonInRoom as S s) ge_none)) (ge_cond (ge_cond (ge_X11_freeTeachers as S s) ge_none) (ge_cond (ge_cond (ge_X11_freeRooms as S s) ge_none) (ge_cond (ge_X11_windows as S s) ge_none)))))))
/-- what the table of the reading ones gives, the whole table gives -/
def gf_N (mid : Nat) (as : List Value) (S : ga_S) (s : ga_M) (x : Option ga_O) : Prop := ∀ o, x = some o → gaG ga_O mid as S s some = some o
theorem gf_cond {mid : Nat} {as : List Value} {S : ga_S} {s : ga_M} {b : Bool} {x y : Option ga_O} (h1 : gf_N mid as S s x) (h2 : gf_N mid as S s y) : gf_N mid as S s (bif b then x else y) := by cases b; exact h2; exact h1
theorem gf_leaf {mid n : Nat} {as : List Value} {S : ga_S} {s : ga_M} {x : Option ga_O} (h : ∀ u : Unit, gaG ga_O n as S s some = x) : gf_N mid as S s (bif Nat.beq mid n then x else none) := by
  intro o ho
  cases hb : Nat.beq mid n with
  | false => rw [hb] at ho; cases ho
  | true =>
    rw [hb] at ho
    rw [Nat.eq_of_beq_eq_true hb, h ()]
    exact ho
theorem gf_GP (mid : Nat) (as : List Value) (S : ga_S) (s : ga_M) : gf_N mid as S s (gaGP ga_O mid as S s some) := gf_cond (gf_cond (gf_cond (gf_cond (gf_cond (gf_cond (gf_leaf (fun _ => rfl)) (gf_leaf (fun _ => rfl))) (gf_cond (gf_leaf (fun _ => rfl)) (gf_leaf (fun _ => rfl)))) (gf_cond (gf_cond (gf_leaf (fun _ => rfl)) (gf_leaf (fun _ => rfl))) (gf_cond (gf_leaf (fun _ => rfl)) (gf_cond (gf_leaf (fun _ => rfl)) (gf_leaf (fun _ => rfl)))))) (gf_cond (gf_cond (gf_cond (gf_leaf (fun _ => rfl)) (gf_leaf (fun _ => rfl))) (gf_cond (gf_leaf (fun _ => rfl)) (gf_cond (gf_leaf (fun _ => rfl)) (gf_leaf (fun _ => rfl))))) (gf_cond (gf_cond (gf_leaf (fun _ => rfl)) (gf_leaf (fun _ => rfl))) (gf_cond (gf_leaf (fun _ => rfl)) (gf_cond (gf_leaf (fun _ => rfl)) (gf_leaf (fun _ => rfl))))))) (gf_cond (gf_cond (gf_cond (gf_cond (gf_leaf (fun _ => rfl)) (gf_leaf (fun _ => rfl))) (gf_cond (gf_leaf (fun _ => rfl)) (gf_cond (gf_leaf (fun _ => rfl)) (gf_leaf (fun _ => rfl))))) (gf_cond (gf_cond (gf_leaf (fun _ => rfl)) (gf_leaf (fun _ => rfl))) (gf_cond (gf_leaf (fun _ => rfl)) (gf_cond (gf_leaf (fun _ => rfl)) (gf_leaf (fun _ => rfl)))))) (gf_cond (gf_cond (gf_cond (gf_leaf (fun _ => rfl)) (gf_leaf (fun _ => rfl))) (gf_cond (gf_leaf (fun _ => rfl)) (gf_cond (gf_leaf (fun _ => rfl)) (gf_leaf (fun _ => rfl))))) (gf_cond (gf_cond (gf_leaf (fun _ => rfl)) (gf_leaf (fun _ => rfl))) (gf_cond (gf_leaf (fun _ => rfl)) (gf_cond (gf_leaf (fun _ => rfl)) (gf_leaf (fun _ => rfl)))))))) (gf_cond (gf_cond (gf_cond (gf_cond (gf_cond (gf_leaf (fun _ => rfl)) (gf_leaf (fun _ => rfl))) (gf_cond (gf_leaf (fun _ => rfl)) (gf_leaf (fun _ => rfl)))) (gf_cond (gf_cond (gf_leaf (fun _ => rfl)) (gf_leaf (fun _ => rfl))) (gf_cond (gf_leaf (fun _ => rfl)) (gf_cond (gf_leaf (fun _ => rfl)) (gf_leaf (fun _ => rfl)))))) (gf_cond (gf_cond (gf_cond (gf_leaf (fun _ => rfl)) (gf_leaf (fun _ => rfl))) (gf_cond (gf_leaf (fun _ => rfl)) (gf_cond (gf_leaf (fun _ => rfl)) (gf_leaf (fun _ => rfl))))) (gf_cond (gf_cond (gf_leaf (fun _ => rfl)) (gf_leaf (fun _ => rfl))) (gf_cond (gf_leaf (fun _ => rfl)) (gf_cond (gf_leaf (fun _ => rfl)) (gf_leaf (fun _ => rfl))))))) (gf_cond (gf_cond (gf_cond (gf_cond (gf_leaf (fun _ => rfl)) (gf_leaf (fun _ => rfl))) (gf_cond (gf_leaf (fun _ => rfl)) (gf_cond (gf_leaf (fun _ => rfl)) (gf_leaf (fun _ => rfl))))) (gf_cond (gf_cond (gf_leaf (fun _ => rfl)) (gf_leaf (fun _ => rfl))) (gf_cond (gf_leaf (fun _ => rfl)) (gf_cond (gf_leaf (fun _ => rfl)) (gf_leaf (fun _ => rfl)))))) (gf_cond (gf_cond (gf_cond (gf_leaf (fun _ => rfl)) (gf_leaf (fun _ => rfl))) (gf_cond (gf_leaf (fun _ => rfl)) (gf_cond (gf_leaf (fun _ => rfl)) (gf_leaf (fun _ => rfl))))) (gf_cond (gf_cond (gf_leaf (fun _ => rfl)) (gf_leaf (fun _ => rfl))) (gf_cond (gf_leaf (fun _ => rfl)) (gf_cond (gf_leaf (fun _ => rfl)) (gf_leaf (fun _ => rfl))))))))
theorem gf_398 (as : List Value) (S : ga_S) (s : ga_M) : gaG ga_O 398 as S s some = none := rfl
theorem gf_399 (as : List Value) (S : ga_S) (s : ga_M) : gaG ga_O 399 as S s some = none := rfl
theorem gf_398P (as : List Value) (S : ga_S) (s : ga_M) : gaGP ga_O 398 as S s some = none := rfl
theorem gf_399P (as : List Value) (S : ga_S) (s : ga_M) : gaGP ga_O 399 as S s some = none := rfl
end GE0
