section D49
/-! ===== teachers ===== -/
variable {T : Nat → Nat} {L : Nat} {N : Nat → Nat} {Q : Nat → Nat → Int32} {s t : ga_M}
theorem nCt_set {p q : Nat → Bool} {v : Nat} (hv : p v = false) (hq : ∀ i, q i = (p i || decide (i = v))) : ∀ m k, nCt q m k = nCt p m k + (if k ≤ v ∧ v < k + m then 1 else 0) := by
  intro m
  induction m with
  | zero => intro k; rw [if_neg (by omega)]; rfl
  | succ m ih =>
    intro k
    unfold nCt
    rw [ih (k + 1), hq k]
    by_cases e : k = v
    · subst e
      rw [hv, decide_eq_true rfl, if_neg (show ¬ (k + 1 ≤ k ∧ k < k + 1 + m) by omega), if_pos (show k ≤ k ∧ k < k + (m + 1) by omega)]
      simp; omega
    · rw [decide_eq_false e, Bool.or_false]
      by_cases c : k ≤ v ∧ v < k + (m + 1)
      · rw [if_pos c, if_pos (show k + 1 ≤ v ∧ v < k + 1 + m by omega)]; omega
      · rw [if_neg c, if_neg (show ¬ (k + 1 ≤ v ∧ v < k + 1 + m) by omega)]; omega
noncomputable def tBody (K : Int32 → ga_M → Option (Int32 × ga_M)) (x : Int32) (s : ga_M) : Option (Int32 × ga_M) :=
  if (v_X8_checkNumber 0 ((s 49 2) - 1) s).1 = 0 then some (0, (v_X8_checkNumber 0 ((s 49 2) - 1) s).2) else
  if (v_X11_hasBit x ((v_X8_checkNumber 0 ((s 49 2) - 1) s).2 45 5) (v_X8_checkNumber 0 ((s 49 2) - 1) s).2) = 0 then
    (f_X8_takeNumber (v_X8_checkNumber 0 ((s 49 2) - 1) s).2).bind fun q104 => K (x ||| (1 <<< (q104.1 &&& 31))) q104.2
  else some ((v_X8_fail 3 (v_X8_checkNumber 0 ((s 49 2) - 1) s).2).1, (v_X8_fail 3 (v_X8_checkNumber 0 ((s 49 2) - 1) s).2).2)
noncomputable def tEnd (a x : Int32) (s : ga_M) : Option (Int32 × ga_M) := (f_X8_takeSemicolon (v_X7_addTeacher_49 a x s)).bind fun q => some (q.1, q.2)
noncomputable def cBodyT (K : ga_M → Option (Int32 × ga_M)) (s : ga_M) : Option (Int32 × ga_M) :=
  (f_X8_takeWord 1002 s).bind fun q101 => if q101.1 = 0 then some (0, q101.2) else (f_X8_readTeacher q101.2).bind fun q102 => if q102.1 = 0 then some (0, q102.2) else K q102.2
end D49
