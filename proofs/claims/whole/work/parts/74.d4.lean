section D4
/-! ===== the reference's search of a lesson ===== -/
variable {N : Nat → Nat} {Q P : Nat → Nat → Int32} {s : ga_M}
def aWith (N : Nat → Nat) (P : Nat → Nat → Int32) (i : Nat) (v x d e : Int32) : Int32 := dFind (fun k => decide (P 0 k = x) && (decide (P i k = v) && (!decide (nI k = d) && !decide (nI k = e)))) (N 6)
theorem dm_lessonWith_40 (hN : dWN N) (h : dM N Q P s) (v x d e : Int32) : f_X12_lessonWith 40 v x d e s = some (aWith N P 1 v x d e) := by
  have hL : N 6 ≤ 40 := hN.2.2.2.2.2.2
  have h6 : s 73 6 = nI (N 6) := h.1.1 6 (by decide)
  rw [fe_X12_lessonWith]
  refine d_find0 (F := fun n k => f_X12_lessonWith_h3 n 40 v x d e (nI k) s) (N := N 6) (by omega) (fun n k hk => ?_) (fun n => ?_)
  · have e1 := h.2.1 k hk
    have e2 := h.2.2.1 k hk
    have c0 : ¬ N 6 ≤ k := by omega
    have c5 : ¬ 168 ≤ k := by omega
    have c6 : ¬ 168 ≤ 40 + k := by omega
    simp (disch := omega) only [f_X12_lessonWith_h3, h6, e1, e2, c0, c5, c6, d_n0, or_self, or_false, d_a0, d_a1, d_a7, d_a13, d_a21, d_a29, d_a35, d_a40, d_a75, d_a80, d_a115, d_a120, d_a155, d_a160, d_a195, d_r1, d_nI0, d_ix, d_cl, d_le, d_lt, d_eq, d_at, d_pt, if_false, if_true, Int32.add_zero, Option.bind_some, reduceIte, Nat.zero_add, Bool.and_eq_true, decide_eq_true_eq, decide_true, decide_false, Bool.and_true, Bool.true_and, Bool.false_and, Bool.and_false, Bool.true_eq_false, Bool.false_eq_true, false_and, and_false, true_and, and_true]
    by_cases c1 : P 0 k = x <;> by_cases c2 : P 1 k = v <;> by_cases c3 : nI k = d <;> by_cases c4 : nI k = e <;> simp [c1, c2, c3, c4]
  · simp only [f_X12_lessonWith_h3, h6]
    rw [if_pos (nI_le (Nat.le_refl _) (by omega))]
theorem dm_lessonWith_80 (hN : dWN N) (h : dM N Q P s) (v x d e : Int32) : f_X12_lessonWith 80 v x d e s = some (aWith N P 2 v x d e) := by
  have hL : N 6 ≤ 40 := hN.2.2.2.2.2.2
  have h6 : s 73 6 = nI (N 6) := h.1.1 6 (by decide)
  rw [fe_X12_lessonWith]
  refine d_find0 (F := fun n k => f_X12_lessonWith_h3 n 80 v x d e (nI k) s) (N := N 6) (by omega) (fun n k hk => ?_) (fun n => ?_)
  · have e1 := h.2.1 k hk
    have e2 := h.2.2.2.1 k hk
    have c0 : ¬ N 6 ≤ k := by omega
    have c5 : ¬ 168 ≤ k := by omega
    have c6 : ¬ 168 ≤ 80 + k := by omega
    simp (disch := omega) only [f_X12_lessonWith_h3, h6, e1, e2, c0, c5, c6, d_n0, or_self, or_false, d_a0, d_a1, d_a7, d_a13, d_a21, d_a29, d_a35, d_a40, d_a75, d_a80, d_a115, d_a120, d_a155, d_a160, d_a195, d_r1, d_nI0, d_ix, d_cl, d_le, d_lt, d_eq, d_at, d_pt, if_false, if_true, Int32.add_zero, Option.bind_some, reduceIte, Nat.zero_add, Bool.and_eq_true, decide_eq_true_eq, decide_true, decide_false, Bool.and_true, Bool.true_and, Bool.false_and, Bool.and_false, Bool.true_eq_false, Bool.false_eq_true, false_and, and_false, true_and, and_true]
    by_cases c1 : P 0 k = x <;> by_cases c2 : P 2 k = v <;> by_cases c3 : nI k = d <;> by_cases c4 : nI k = e <;> simp [c1, c2, c3, c4]
  · simp only [f_X12_lessonWith_h3, h6]
    rw [if_pos (nI_le (Nat.le_refl _) (by omega))]
end D4
