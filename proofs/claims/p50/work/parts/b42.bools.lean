section GZ0
/-- false or true -/
def gz (x : Int32) : Prop := x = 0 ∨ x = 1
def gzo (o : Option Int32) : Prop := ∀ r, o = some r → gz r
def gzp (o : Option (Int32 × ga_M)) : Prop := ∀ r, o = some r → gz r.1
theorem gzo_some {x : Int32} (h : gz x) : gzo (some x) := fun r hr => Option.some.inj hr ▸ h
theorem gzp_some {x : Int32} {s : ga_M} (h : gz x) : gzp (some (x, s)) := fun r hr => Option.some.inj hr ▸ h
theorem gzo_none : gzo none := fun _ h => nomatch h
theorem gzp_none : gzp none := fun _ h => nomatch h
theorem gz_if {c : Prop} {_ : Decidable c} {a b : Int32} (h1 : gz a) (h2 : gz b) : gz (if c then a else b) := by split; exact h1; exact h2
theorem gzq_if {c : Prop} {_ : Decidable c} {a b : Int32 × ga_M} (h1 : gz a.1) (h2 : gz b.1) : gz (if c then a else b).1 := by split; exact h1; exact h2
theorem gzo_if {c : Prop} {_ : Decidable c} {a b : Option Int32} (h1 : gzo a) (h2 : gzo b) : gzo (if c then a else b) := by split; exact h1; exact h2
theorem gzp_if {c : Prop} {_ : Decidable c} {a b : Option (Int32 × ga_M)} (h1 : gzp a) (h2 : gzp b) : gzp (if c then a else b) := by split; exact h1; exact h2
theorem gzo_bind {β : Type} {x : Option β} {f : β → Option Int32} (h : ∀ y, x = some y → gzo (f y)) : gzo (x.bind f) := by
  cases x with
  | none => exact gzo_none
  | some y => exact h y rfl
theorem gzp_bind {β : Type} {x : Option β} {f : β → Option (Int32 × ga_M)} (h : ∀ y, x = some y → gzp (f y)) : gzp (x.bind f) := by
  cases x with
  | none => exact gzp_none
  | some y => exact h y rfl
end GZ0
theorem z_X10_isLetter (a : Int32) (s : ga_M) : gz (v_X10_isLetter a s) := by rw [ve_X10_isLetter]; exact (gz_if (Or.inl rfl) (gz_if (Or.inl rfl) (Or.inr rfl)))
theorem zf_X10_isLetter (a : Int32) (s : ga_M) : gzo (f_X10_isLetter a s) := by rw [e_X10_isLetter]; exact gzo_some (z_X10_isLetter a s)
theorem z_X10_isDigit (a : Int32) (s : ga_M) : gz (v_X10_isDigit a s) := by rw [ve_X10_isDigit]; exact (gz_if (Or.inl rfl) (gz_if (Or.inl rfl) (Or.inr rfl)))
theorem zf_X10_isDigit (a : Int32) (s : ga_M) : gzo (f_X10_isDigit a s) := by rw [e_X10_isDigit]; exact gzo_some (z_X10_isDigit a s)
theorem z_X10_isWord_h28 : ∀ (n : Nat) (l1 : Nat) (l2 : Int32) (s : ga_M), gzo (f_X10_isWord_h28 n l1 l2 s) := by
  intro n
  induction n with
  | zero => intros; exact gzo_none
  | succ n ih => intro l1 l2 s; exact (gzo_bind fun x101 hx101 => (gzo_if (gzo_some (Or.inr rfl)) (gzo_bind fun x102 hx102 => (gzo_if (ih _ _ _) (gzo_some (Or.inl rfl))))))
theorem z_X10_isWord (a : Nat) (s : ga_M) : gzo (f_X10_isWord a s) := by rw [fe_X10_isWord]; exact (gzo_if (gzo_bind fun x1 hx1 => (gzo_if (z_X10_isWord_h28 ga_fuel _ _ _) (gzo_some (Or.inl rfl)))) (gzo_some (Or.inl rfl)))
theorem z_X10_fail (a : Int32) (b : Int32) (s : ga_M) : gz (v_X10_fail a b s).1 := by rw [ve_X10_fail]; exact (Or.inl rfl)
theorem zf_X10_fail (a : Int32) (b : Int32) (s : ga_M) : gzp (f_X10_fail a b s) := by rw [e_X10_fail]; exact fun r hr => Option.some.inj hr ▸ z_X10_fail a b s
theorem z_X8_fail (a : Int32) (s : ga_M) : gz (v_X8_fail a s).1 := by rw [ve_X8_fail]; exact (z_X10_fail _ _ _)
theorem zf_X8_fail (a : Int32) (s : ga_M) : gzp (f_X8_fail a s) := by rw [e_X8_fail]; exact fun r hr => Option.some.inj hr ▸ z_X8_fail a s
theorem z_X8_takeWord (a : Nat) (s : ga_M) : gzp (f_X8_takeWord a s) := by rw [fe_X8_takeWord]; exact (gzp_bind fun x1 hx1 => (gzp_if (gzp_some (z_X8_fail _ _)) (gzp_bind fun s2 hs2 => (gzp_some (Or.inr rfl)))))
theorem z_X8_checkNumber (a : Int32) (b : Int32) (s : ga_M) : gz (v_X8_checkNumber a b s).1 := by rw [ve_X8_checkNumber]; exact (gzq_if (gzq_if (gzq_if (Or.inl rfl) (Or.inr rfl)) (gzq_if (Or.inr rfl) (gzq_if (Or.inl rfl) (Or.inr rfl)))) (z_X8_fail _ _))
theorem zf_X8_checkNumber (a : Int32) (b : Int32) (s : ga_M) : gzp (f_X8_checkNumber a b s) := by rw [e_X8_checkNumber]; exact fun r hr => Option.some.inj hr ▸ z_X8_checkNumber a b s
theorem z_X8_takeSemicolon (s : ga_M) : gzp (f_X8_takeSemicolon s) := by rw [fe_X8_takeSemicolon]; exact (gzp_if (gzp_bind fun s1 hs1 => (gzp_some (Or.inr rfl))) (gzp_some (z_X8_fail _ _)))
theorem z_X8_readGrid (s : ga_M) : gzp (f_X8_readGrid s) := by rw [fe_X8_readGrid]; exact (gzp_bind fun q1 hq1 => (gzp_if (gzp_some (Or.inl rfl)) (gzp_if (gzp_some (Or.inl rfl)) (gzp_bind fun q3 hq3 => (gzp_if (gzp_some (Or.inl rfl)) (gzp_bind fun q6 hq6 => (gzp_bind fun q8 hq8 => (gzp_some (z_X8_takeSemicolon _ _ hq8)))))))))
theorem z_X8_readSubjects_h2 : ∀ (n : Nat) (l1 : Int32) (s : ga_M), gzp (f_X8_readSubjects_h2 n l1 s) := by
  intro n
  induction n with
  | zero => intros; exact gzp_none
  | succ n ih => intro l1 s; exact (gzp_if (gzp_some (Or.inr rfl)) (gzp_if (gzp_if (gzp_some (z_X8_fail _ _)) (gzp_bind fun q101 hq101 => (gzp_if (gzp_some (Or.inl rfl)) (gzp_if (gzp_some (Or.inl rfl)) (gzp_bind fun q103 hq103 => (gzp_bind fun q105 hq105 => (gzp_if (gzp_some (Or.inl rfl)) (ih _ _)))))))) (gzp_bind fun x108 hx108 => (gzp_if (gzp_some (Or.inr rfl)) (gzp_if (gzp_some (z_X8_fail _ _)) (gzp_bind fun q109 hq109 => (gzp_if (gzp_some (Or.inl rfl)) (gzp_if (gzp_some (Or.inl rfl)) (gzp_bind fun q111 hq111 => (gzp_bind fun q113 hq113 => (gzp_if (gzp_some (Or.inl rfl)) (ih _ _))))))))))))
theorem z_X8_readSubjects (s : ga_M) : gzp (f_X8_readSubjects s) := by rw [fe_X8_readSubjects]; exact (z_X8_readSubjects_h2 ga_fuel _ _)
theorem z_X11_hasBit (a : Int32) (b : Int32) (s : ga_M) : gz (v_X11_hasBit a b s) := by rw [ve_X11_hasBit]; exact (gz_if (Or.inl rfl) (gz_if (Or.inl rfl) (gz_if (Or.inr rfl) (Or.inl rfl))))
theorem zf_X11_hasBit (a : Int32) (b : Int32) (s : ga_M) : gzo (f_X11_hasBit a b s) := by rw [e_X11_hasBit]; exact gzo_some (z_X11_hasBit a b s)
theorem z_X8_readTeacher_h21 : ∀ (n : Nat) (l1 : Int32) (l2 : Int32) (l3 : Int32) (s : ga_M), gzp (f_X8_readTeacher_h21 n l1 l2 l3 s) := by
  intro n
  induction n with
  | zero => intros; exact gzp_none
  | succ n ih => intro l1 l2 l3 s; exact (gzp_if (gzp_bind fun q102 hq102 => (gzp_some (z_X8_takeSemicolon _ _ hq102))) (gzp_if (gzp_if (gzp_some (Or.inl rfl)) (gzp_if (gzp_bind fun q104 hq104 => (ih _ _ _ _)) (gzp_some (z_X8_fail _ _)))) (gzp_if (gzp_if (gzp_some (Or.inl rfl)) (gzp_if (gzp_bind fun q111 hq111 => (ih _ _ _ _)) (gzp_some (z_X8_fail _ _)))) (gzp_bind fun q109 hq109 => (gzp_some (z_X8_takeSemicolon _ _ hq109))))))
theorem z_X8_readTeacher (s : ga_M) : gzp (f_X8_readTeacher s) := by rw [fe_X8_readTeacher]; exact (gzp_if (gzp_some (Or.inl rfl)) (gzp_bind fun q2 hq2 => (z_X8_readTeacher_h21 ga_fuel _ _ _ _)))
theorem z_X8_readTeachers_h2 : ∀ (n : Nat) (l1 : Int32) (s : ga_M), gzp (f_X8_readTeachers_h2 n l1 s) := by
  intro n
  induction n with
  | zero => intros; exact gzp_none
  | succ n ih => intro l1 s; exact (gzp_if (gzp_some (Or.inr rfl)) (gzp_if (gzp_if (gzp_some (z_X8_fail _ _)) (gzp_bind fun q101 hq101 => (gzp_if (gzp_some (Or.inl rfl)) (gzp_bind fun q102 hq102 => (gzp_if (gzp_some (Or.inl rfl)) (ih _ _)))))) (gzp_bind fun x105 hx105 => (gzp_if (gzp_some (Or.inr rfl)) (gzp_if (gzp_some (z_X8_fail _ _)) (gzp_bind fun q106 hq106 => (gzp_if (gzp_some (Or.inl rfl)) (gzp_bind fun q107 hq107 => (gzp_if (gzp_some (Or.inl rfl)) (ih _ _))))))))))
theorem z_X8_readTeachers (s : ga_M) : gzp (f_X8_readTeachers s) := by rw [fe_X8_readTeachers]; exact (z_X8_readTeachers_h2 ga_fuel _ _)
theorem z_X8_readRooms_h2 : ∀ (n : Nat) (l1 : Int32) (s : ga_M), gzp (f_X8_readRooms_h2 n l1 s) := by
  intro n
  induction n with
  | zero => intros; exact gzp_none
  | succ n ih => intro l1 s; exact (gzp_if (gzp_some (Or.inr rfl)) (gzp_if (gzp_if (gzp_some (z_X8_fail _ _)) (gzp_bind fun q101 hq101 => (gzp_if (gzp_some (Or.inl rfl)) (gzp_if (gzp_some (Or.inl rfl)) (gzp_bind fun q103 hq103 => (gzp_bind fun q105 hq105 => (gzp_if (gzp_some (Or.inl rfl)) (ih _ _)))))))) (gzp_bind fun x108 hx108 => (gzp_if (gzp_some (Or.inr rfl)) (gzp_if (gzp_some (z_X8_fail _ _)) (gzp_bind fun q109 hq109 => (gzp_if (gzp_some (Or.inl rfl)) (gzp_if (gzp_some (Or.inl rfl)) (gzp_bind fun q111 hq111 => (gzp_bind fun q113 hq113 => (gzp_if (gzp_some (Or.inl rfl)) (ih _ _))))))))))))
theorem z_X8_readRooms (s : ga_M) : gzp (f_X8_readRooms s) := by rw [fe_X8_readRooms]; exact (z_X8_readRooms_h2 ga_fuel _ _)
theorem z_X8_readClasses (s : ga_M) : gzp (f_X8_readClasses s) := by rw [fe_X8_readClasses]; exact (gzp_bind fun q1 hq1 => (gzp_if (gzp_some (Or.inl rfl)) (gzp_if (gzp_some (Or.inl rfl)) (gzp_bind fun q3 hq3 => (gzp_bind fun q5 hq5 => (gzp_some (z_X8_takeSemicolon _ _ hq5)))))))
theorem z_X7_isTakenAtFirst_49_58_h3 : ∀ (n : Nat) (l1 : Int32) (l3 : Int32) (l4 : Int32) (s : ga_M), gzo (f_X7_isTakenAtFirst_49_58_h3 n l1 l3 l4 s) := by
  intro n
  induction n with
  | zero => intros; exact gzo_none
  | succ n ih => intro l1 l3 l4 s; exact (gzo_if (gzo_some (Or.inl rfl)) (gzo_if (gzo_if (gzo_some (Or.inr rfl)) (ih _ _ _ _)) (ih _ _ _ _)))
theorem z_X7_isTakenAtFirst_49_58 (a : Int32) (b : Int32) (s : ga_M) : gzo (f_X7_isTakenAtFirst_49_58 a b s) := by rw [fe_X7_isTakenAtFirst_49_58]; exact (z_X7_isTakenAtFirst_49_58_h3 ga_fuel _ _ _ _)
theorem z_X8_checkUntaken_58 (a : Int32) (b : Int32) (s : ga_M) : gzp (f_X8_checkUntaken_58 a b s) := by rw [fe_X8_checkUntaken_58]; exact (gzp_if (gzp_some (Or.inl rfl)) (gzp_bind fun x2 hx2 => (gzp_if (gzp_some (Or.inr rfl)) (gzp_if (gzp_some (Or.inl rfl)) (gzp_some (Or.inr rfl))))))
theorem z_X7_isTakenAtFirst_49_64_h3 : ∀ (n : Nat) (l1 : Int32) (l3 : Int32) (l4 : Int32) (s : ga_M), gzo (f_X7_isTakenAtFirst_49_64_h3 n l1 l3 l4 s) := by
  intro n
  induction n with
  | zero => intros; exact gzo_none
  | succ n ih => intro l1 l3 l4 s; exact (gzo_if (gzo_some (Or.inl rfl)) (gzo_if (gzo_if (gzo_some (Or.inr rfl)) (ih _ _ _ _)) (ih _ _ _ _)))
theorem z_X7_isTakenAtFirst_49_64 (a : Int32) (b : Int32) (s : ga_M) : gzo (f_X7_isTakenAtFirst_49_64 a b s) := by rw [fe_X7_isTakenAtFirst_49_64]; exact (z_X7_isTakenAtFirst_49_64_h3 ga_fuel _ _ _ _)
theorem z_X8_checkUntaken_64 (a : Int32) (b : Int32) (s : ga_M) : gzp (f_X8_checkUntaken_64 a b s) := by rw [fe_X8_checkUntaken_64]; exact (gzp_if (gzp_some (Or.inl rfl)) (gzp_bind fun x2 hx2 => (gzp_if (gzp_some (Or.inr rfl)) (gzp_if (gzp_some (Or.inl rfl)) (gzp_some (Or.inr rfl))))))
theorem z_X7_hasTeacher_49 (a : Int32) (s : ga_M) : gz (v_X7_hasTeacher_49 a s) := by rw [ve_X7_hasTeacher_49]; exact (gz_if (Or.inl rfl) (gz_if (Or.inl rfl) (Or.inr rfl)))
theorem zf_X7_hasTeacher_49 (a : Int32) (s : ga_M) : gzo (f_X7_hasTeacher_49 a s) := by rw [e_X7_hasTeacher_49]; exact gzo_some (z_X7_hasTeacher_49 a s)
theorem z_X7_isQualified_49 (a : Int32) (b : Int32) (s : ga_M) : gz (v_X7_isQualified_49 a b s) := by rw [ve_X7_isQualified_49]; exact (gz_if (Or.inl rfl) (gz_if (Or.inl rfl) (Or.inr rfl)))
theorem zf_X7_isQualified_49 (a : Int32) (b : Int32) (s : ga_M) : gzo (f_X7_isQualified_49 a b s) := by rw [e_X7_isQualified_49]; exact gzo_some (z_X7_isQualified_49 a b s)
theorem z_X7_isTakenAtFirst_49_66_h3 : ∀ (n : Nat) (l1 : Int32) (l3 : Int32) (l4 : Int32) (s : ga_M), gzo (f_X7_isTakenAtFirst_49_66_h3 n l1 l3 l4 s) := by
  intro n
  induction n with
  | zero => intros; exact gzo_none
  | succ n ih => intro l1 l3 l4 s; exact (gzo_if (gzo_some (Or.inl rfl)) (gzo_if (gzo_if (gzo_some (Or.inr rfl)) (ih _ _ _ _)) (ih _ _ _ _)))
theorem z_X7_isTakenAtFirst_49_66 (a : Int32) (b : Int32) (s : ga_M) : gzo (f_X7_isTakenAtFirst_49_66 a b s) := by rw [fe_X7_isTakenAtFirst_49_66]; exact (z_X7_isTakenAtFirst_49_66_h3 ga_fuel _ _ _ _)
theorem z_X8_checkUntaken_66 (a : Int32) (b : Int32) (s : ga_M) : gzp (f_X8_checkUntaken_66 a b s) := by rw [fe_X8_checkUntaken_66]; exact (gzp_if (gzp_some (Or.inl rfl)) (gzp_bind fun x2 hx2 => (gzp_if (gzp_some (Or.inr rfl)) (gzp_if (gzp_some (Or.inl rfl)) (gzp_some (Or.inr rfl))))))
theorem z_X8_readLesson_j155 (l1 : Int32) (l2 : Int32) (l3 : Int32) (l4 : Int32) (s : ga_M) : gzp (f_X8_readLesson_j155 l1 l2 l3 l4 s) := by rw [fe_X8_readLesson_j155]; exact (gzp_if (gzp_bind fun q301 hq301 => (gzp_bind fun q303 hq303 => (gzp_some (z_X8_takeSemicolon _ _ hq303)))) (gzp_some (z_X8_fail _ _)))
theorem z_X8_readLesson_j101 (l1 : Int32) (l2 : Int32) (l3 : Int32) (s : ga_M) : gzp (f_X8_readLesson_j101 l1 l2 l3 s) := by rw [fe_X8_readLesson_j101]; exact (gzp_if (gzp_some (z_X8_fail _ _)) (gzp_bind fun q201 hq201 => (gzp_bind fun q203 hq203 => (gzp_if (gzp_some (Or.inl rfl)) (z_X8_readLesson_j155 _ _ _ _ _)))))
theorem z_X8_readLesson_j48 (l1 : Int32) (s : ga_M) : gzp (f_X8_readLesson_j48 l1 s) := by rw [fe_X8_readLesson_j48]; exact (gzp_bind fun q101 hq101 => (gzp_if (gzp_some (Or.inl rfl)) (gzp_bind fun q104 hq104 => (gzp_bind fun q106 hq106 => (gzp_if (gzp_some (Or.inl rfl)) (z_X8_readLesson_j101 _ _ _ _))))))
theorem z_X8_readLesson (s : ga_M) : gzp (f_X8_readLesson s) := by rw [fe_X8_readLesson]; exact (gzp_if (gzp_some (Or.inl rfl)) (gzp_bind fun q2 hq2 => (gzp_bind fun q4 hq4 => (gzp_if (gzp_some (Or.inl rfl)) (z_X8_readLesson_j48 _ _)))))
theorem z_X8_readLessons_h2 : ∀ (n : Nat) (l1 : Int32) (s : ga_M), gzp (f_X8_readLessons_h2 n l1 s) := by
  intro n
  induction n with
  | zero => intros; exact gzp_none
  | succ n ih => intro l1 s; exact (gzp_if (gzp_if (gzp_some (Or.inr rfl)) (gzp_if (gzp_some (Or.inl rfl)) (gzp_some (Or.inr rfl)))) (gzp_bind fun x102 hx102 => (gzp_if (gzp_if (gzp_some (Or.inr rfl)) (gzp_if (gzp_some (Or.inl rfl)) (gzp_some (Or.inr rfl)))) (gzp_if (gzp_some (z_X8_fail _ _)) (gzp_bind fun s104 hs104 => (gzp_bind fun q105 hq105 => (gzp_if (gzp_some (Or.inl rfl)) (ih _ _))))))))
theorem z_X8_readLessons (s : ga_M) : gzp (f_X8_readLessons s) := by rw [fe_X8_readLessons]; exact (z_X8_readLessons_h2 ga_fuel _ _)
theorem z_X8_read (s : ga_M) : gzp (f_X8_read s) := by rw [fe_X8_read]; exact (gzp_bind fun s2 hs2 => (gzp_bind fun q3 hq3 => (gzp_if (gzp_some (Or.inl rfl)) (gzp_bind fun q4 hq4 => (gzp_if (gzp_some (Or.inl rfl)) (gzp_bind fun q5 hq5 => (gzp_if (gzp_some (Or.inl rfl)) (gzp_bind fun q6 hq6 => (gzp_if (gzp_some (Or.inl rfl)) (gzp_bind fun q7 hq7 => (gzp_if (gzp_some (Or.inl rfl)) (gzp_bind fun q8 hq8 => (gzp_if (gzp_some (Or.inl rfl)) (gzp_some (Or.inr rfl)))))))))))))))
theorem z_X3_isAway (a : Int32) (b : Int32) (s : ga_M) : gz (v_X3_isAway a b s) := by rw [ve_X3_isAway]; exact (z_X11_hasBit _ _ _)
theorem zf_X3_isAway (a : Int32) (b : Int32) (s : ga_M) : gzo (f_X3_isAway a b s) := by rw [e_X3_isAway]; exact gzo_some (z_X3_isAway a b s)
theorem z_X3_isAwayAt (a : Int32) (b : Int32) (s : ga_M) : gzo (f_X3_isAwayAt a b s) := by rw [fe_X3_isAwayAt]; exact (gzo_bind fun x1 hx1 => (gzo_some (z_X3_isAway _ _ _)))
theorem z_X7_hasTeacher (a : Int32) (s : ga_M) : gz (v_X7_hasTeacher a s) := by rw [ve_X7_hasTeacher]; exact (gz_if (Or.inl rfl) (gz_if (Or.inl rfl) (Or.inr rfl)))
theorem zf_X7_hasTeacher (a : Int32) (s : ga_M) : gzo (f_X7_hasTeacher a s) := by rw [e_X7_hasTeacher]; exact gzo_some (z_X7_hasTeacher a s)
theorem z_X7_hasDay (a : Int32) (s : ga_M) : gz (v_X7_hasDay a s) := by rw [ve_X7_hasDay]; exact (gz_if (Or.inl rfl) (gz_if (Or.inl rfl) (Or.inr rfl)))
theorem zf_X7_hasDay (a : Int32) (s : ga_M) : gzo (f_X7_hasDay a s) := by rw [e_X7_hasDay]; exact gzo_some (z_X7_hasDay a s)
theorem z_X7_hasLesson (a : Int32) (s : ga_M) : gz (v_X7_hasLesson a s) := by rw [ve_X7_hasLesson]; exact (gz_if (Or.inl rfl) (gz_if (Or.inl rfl) (Or.inr rfl)))
theorem zf_X7_hasLesson (a : Int32) (s : ga_M) : gzo (f_X7_hasLesson a s) := by rw [e_X7_hasLesson]; exact gzo_some (z_X7_hasLesson a s)
theorem z_X3_isTaught (a : Int32) (s : ga_M) : gz (v_X3_isTaught a s) := by rw [ve_X3_isTaught]; exact (gz_if (Or.inl rfl) (gz_if (Or.inr rfl) (Or.inl rfl)))
theorem zf_X3_isTaught (a : Int32) (s : ga_M) : gzo (f_X3_isTaught a s) := by rw [e_X3_isTaught]; exact gzo_some (z_X3_isTaught a s)
theorem z_X7_isQualified (a : Int32) (b : Int32) (s : ga_M) : gz (v_X7_isQualified a b s) := by rw [ve_X7_isQualified]; exact (gz_if (Or.inl rfl) (gz_if (Or.inl rfl) (Or.inr rfl)))
theorem zf_X7_isQualified (a : Int32) (b : Int32) (s : ga_M) : gzo (f_X7_isQualified a b s) := by rw [e_X7_isQualified]; exact gzo_some (z_X7_isQualified a b s)
theorem z_X4_isBusy (a : Int32) (b : Int32) (s : ga_M) : gzo (f_X4_isBusy a b s) := by rw [fe_X4_isBusy]; exact (gzo_bind fun x1 hx1 => (gzo_if (gzo_some (Or.inl rfl)) (gzo_some (Or.inr rfl))))
theorem z_X2_letCover (a : Int32) (b : Int32) (s : ga_M) : gzp (f_X2_letCover a b s) := by rw [fe_X2_letCover]; exact (gzp_bind fun x1 hx1 => (gzp_if (gzp_some (Or.inr rfl)) (gzp_some (Or.inl rfl))))
theorem z_X3_isOpen (a : Int32) (s : ga_M) : gz (v_X3_isOpen a s) := by rw [ve_X3_isOpen]; exact (gz_if (Or.inr rfl) (Or.inl rfl))
theorem zf_X3_isOpen (a : Int32) (s : ga_M) : gzo (f_X3_isOpen a s) := by rw [e_X3_isOpen]; exact gzo_some (z_X3_isOpen a s)
theorem z_X3_isSupervised (a : Int32) (s : ga_M) : gz (v_X3_isSupervised a s) := by rw [ve_X3_isSupervised]; exact (gz_if (Or.inr rfl) (Or.inl rfl))
theorem zf_X3_isSupervised (a : Int32) (s : ga_M) : gzo (f_X3_isSupervised a s) := by rw [e_X3_isSupervised]; exact gzo_some (z_X3_isSupervised a s)
theorem z_X2_letSupervise (a : Int32) (b : Int32) (s : ga_M) : gzp (f_X2_letSupervise a b s) := by rw [fe_X2_letSupervise]; exact (gzp_bind fun x1 hx1 => (gzp_if (gzp_some (Or.inr rfl)) (gzp_some (Or.inl rfl))))
theorem z_X2_repairByChain_h27 : ∀ (n : Nat) (l2 : Int32) (l3 : Int32) (l4 : Int32) (l5 : Int32) (s : ga_M), gzp (f_X2_repairByChain_h27 n l2 l3 l4 l5 s) := by
  intro n
  induction n with
  | zero => intros; exact gzp_none
  | succ n ih => intro l2 l3 l4 l5 s; exact (gzp_if (gzp_if (gzp_some (Or.inl rfl)) (gzp_some (Or.inr rfl))) (gzp_bind fun x102 hx102 => (ih _ _ _ _ _)))
theorem z_X2_repairByChain (a : Int32) (s : ga_M) : gzp (f_X2_repairByChain a s) := by rw [fe_X2_repairByChain]; exact (gzp_bind fun q1 hq1 => (z_X2_repairByChain_h27 ga_fuel _ _ _ _ _))
theorem z_X4_isTeacherAwayAt (a : Int32) (b : Int32) (s : ga_M) : gzo (f_X4_isTeacherAwayAt a b s) := by rw [fe_X4_isTeacherAwayAt]; exact (gzo_bind fun x1 hx1 => (gzo_some (z_X3_isAwayAt _ _ _ _ hx1)))
theorem z_X4_isHeldByThird_23 (a : Int32) (b : Int32) (s : ga_M) : gzo (f_X4_isHeldByThird_23 a b s) := by rw [fe_X4_isHeldByThird_23]; exact (gzo_bind fun x1 hx1 => (gzo_if (gzo_some (Or.inl rfl)) (gzo_if (gzo_some (Or.inl rfl)) (gzo_if (gzo_some (Or.inl rfl)) (gzo_some (Or.inr rfl))))))
theorem z_X4_isHeldByThird_25 (a : Int32) (b : Int32) (s : ga_M) : gzo (f_X4_isHeldByThird_25 a b s) := by rw [fe_X4_isHeldByThird_25]; exact (gzo_bind fun x1 hx1 => (gzo_if (gzo_some (Or.inl rfl)) (gzo_if (gzo_some (Or.inl rfl)) (gzo_if (gzo_some (Or.inl rfl)) (gzo_some (Or.inr rfl))))))
theorem z_X2_swapSlots (a : Int32) (b : Int32) (s : ga_M) : gzp (f_X2_swapSlots a b s) := by rw [fe_X2_swapSlots]; exact (gzp_bind fun x1 hx1 => (gzp_if (gzp_some (Or.inr rfl)) (gzp_some (Or.inl rfl))))
theorem z_X7_hasSlot (a : Int32) (s : ga_M) : gz (v_X7_hasSlot a s) := by rw [ve_X7_hasSlot]; exact (gz_if (Or.inl rfl) (gz_if (Or.inl rfl) (Or.inr rfl)))
theorem zf_X7_hasSlot (a : Int32) (s : ga_M) : gzo (f_X7_hasSlot a s) := by rw [e_X7_hasSlot]; exact gzo_some (z_X7_hasSlot a s)
theorem z_X2_moveToSlot (a : Int32) (b : Int32) (s : ga_M) : gzp (f_X2_moveToSlot a b s) := by rw [fe_X2_moveToSlot]; exact (gzp_bind fun x1 hx1 => (gzp_if (gzp_some (Or.inr rfl)) (gzp_some (Or.inl rfl))))
theorem z_X7_hasRoom (a : Int32) (s : ga_M) : gz (v_X7_hasRoom a s) := by rw [ve_X7_hasRoom]; exact (gz_if (Or.inl rfl) (gz_if (Or.inl rfl) (Or.inr rfl)))
theorem zf_X7_hasRoom (a : Int32) (s : ga_M) : gzo (f_X7_hasRoom a s) := by rw [e_X7_hasRoom]; exact gzo_some (z_X7_hasRoom a s)
theorem z_X2_moveToRoom (a : Int32) (b : Int32) (s : ga_M) : gzp (f_X2_moveToRoom a b s) := by rw [fe_X2_moveToRoom]; exact (gzp_bind fun x1 hx1 => (gzp_if (gzp_some (Or.inr rfl)) (gzp_some (Or.inl rfl))))
theorem z_X2_openAgain (a : Int32) (s : ga_M) : gz (v_X2_openAgain a s).1 := by rw [ve_X2_openAgain]; exact (gzq_if (Or.inr rfl) (Or.inl rfl))
theorem zf_X2_openAgain (a : Int32) (s : ga_M) : gzp (f_X2_openAgain a s) := by rw [e_X2_openAgain]; exact fun r hr => Option.some.inj hr ▸ z_X2_openAgain a s
theorem z_X3_differs (a : Int32) (s : ga_M) : gz (v_X3_differs a s) := by rw [ve_X3_differs]; exact (gz_if (gz_if (gz_if (gz_if (Or.inl rfl) (Or.inr rfl)) (Or.inr rfl)) (Or.inr rfl)) (Or.inr rfl))
theorem zf_X3_differs (a : Int32) (s : ga_M) : gzo (f_X3_differs a s) := by rw [e_X3_differs]; exact gzo_some (z_X3_differs a s)
