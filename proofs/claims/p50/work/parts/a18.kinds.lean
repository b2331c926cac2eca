section D48
/-! ===== subjects, rooms ===== -/
variable {T : Nat → Nat} {L : Nat} {N : Nat → Nat} {Q : Nat → Nat → Int32} {s t : ga_M}
theorem dBd_u {i v : Nat} (hB : dBd N) (h : v ≤ (if i = 2 then 6 else if i = 3 then 8 else if i = 4 then 6 else 40)) : dBd (nU N i v) := by
  obtain ⟨h2, h3, h4, h6⟩ := hB
  unfold dBd nU
  refine ⟨?_, ?_, ?_, ?_⟩
  · by_cases e : i = 2
    · subst e; simpa using h
    · rw [if_neg (fun q => e q.symm)]; exact h2
  · by_cases e : i = 3
    · subst e; simpa using h
    · rw [if_neg (fun q => e q.symm)]; exact h3
  · by_cases e : i = 4
    · subst e; simpa using h
    · rw [if_neg (fun q => e q.symm)]; exact h4
  · by_cases e : i = 6
    · subst e; simpa using h
    · rw [if_neg (fun q => e q.symm)]; exact h6
noncomputable def cBodySubjects (K : ga_M → Option (Int32 × ga_M)) (s : ga_M) : Option (Int32 × ga_M) :=
  (f_X8_takeWord 1001 s).bind fun q101 => if q101.1 = 0 then some (0, q101.2) else if (v_X8_checkNumber 0 3 q101.2).1 = 0 then some (0, (v_X8_checkNumber 0 3 q101.2).2) else
    (f_X8_takeNumber (v_X8_checkNumber 0 3 q101.2).2).bind fun q103 => (f_X8_takeSemicolon (v_X7_addSubject_49 q103.1 q103.2)).bind fun q105 => if q105.1 = 0 then some (0, q105.2) else K q105.2
noncomputable def cBodyRooms (K : ga_M → Option (Int32 × ga_M)) (s : ga_M) : Option (Int32 × ga_M) :=
  (f_X8_takeWord 1003 s).bind fun q101 => if q101.1 = 0 then some (0, q101.2) else if (v_X8_checkNumber 0 3 q101.2).1 = 0 then some (0, (v_X8_checkNumber 0 3 q101.2).2) else
    (f_X8_takeNumber (v_X8_checkNumber 0 3 q101.2).2).bind fun q103 => (f_X8_takeSemicolon (v_X7_addRoom_49 q103.1 q103.2)).bind fun q105 => if q105.1 = 0 then some (0, q105.2) else K q105.2
end D48
