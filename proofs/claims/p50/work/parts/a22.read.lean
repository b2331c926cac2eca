section D52
/-! ===== reading a whole school ===== -/
variable {T : Nat → Nat} {L : Nat} {N : Nat → Nat} {Q : Nat → Nat → Int32} {s t : ga_M}
noncomputable def cRd (s : ga_M) : Option (Int32 × ga_M) :=
  (f_X8_readGrid s).bind fun q3 => if q3.1 = 0 then some (0, q3.2) else
  (f_X8_readSubjects q3.2).bind fun q4 => if q4.1 = 0 then some (0, q4.2) else
  (f_X8_readTeachers q4.2).bind fun q5 => if q5.1 = 0 then some (0, q5.2) else
  (f_X8_readRooms q5.2).bind fun q6 => if q6.1 = 0 then some (0, q6.2) else
  (f_X8_readClasses q6.2).bind fun q7 => if q7.1 = 0 then some (0, q7.2) else
  (f_X8_readLessons q7.2).bind fun q8 => if q8.1 = 0 then some (0, q8.2) else some (1, q8.2)
end D52
