section D6
variable {N : Nat → Nat} {Q P : Nat → Nat → Int32} {s : ga_M}
theorem dc_loadOf (hN : dWN N) (h : dC N Q P s) (v : Int32) : f_X3_loadOf v s = some (aLoad N Q P v) := by
  have hL : N 6 ≤ 40 := hN.2.2.2.2.2.2
  have h6 : s 1 6 = nI (N 6) := h.1.1 6 (by decide)
  rw [fe_X3_loadOf]
  refine (d_fold0 (F := fun n k a => f_X3_loadOf_h4 n v a (nI k) s) (f := dBf (fun k => decide (P 1 k = v) && decide (P 3 k = 0)) (fun k => decide (Q 8 k = v))) (g := some) (N := N 6) (by omega) (fun n k a hk => ?_) (fun n a => ?_) 0).trans ?_
  · have e1 := h.2.2.1 k hk
    have e3 := h.2.2.2.2.1 k hk
    have e8 := h.1.2.2.2.2.2.2.2.2.1 k hk
    have c0 : ¬ N 6 ≤ k := by omega
    simp (disch := omega) only [f_X3_loadOf_h4, h6, e1, e3, e8, c0, d_a0, d_a1, d_a7, d_a13, d_a21, d_a29, d_a35, d_a40, d_a75, d_a80, d_a115, d_a120, d_a155, d_a160, d_a195, d_r1, d_nI0, d_ix, d_cl, d_le, d_lt, d_eq, d_at, d_pt, if_false, if_true, Int32.add_zero, Option.bind_some, reduceIte, Nat.zero_add, Bool.and_eq_true, decide_eq_true_eq, decide_true, decide_false, Bool.and_true, Bool.true_and, Bool.false_and, Bool.and_false, Bool.true_eq_false, Bool.false_eq_true, false_and, and_false, true_and, and_true]
    by_cases c1 : P 1 k = v <;> by_cases c2 : P 3 k = 0 <;> by_cases c3 : Q 8 k = v <;> simp [c1, c2, c3, dBf, dCf]
  · simp only [f_X3_loadOf_h4, h6]
    rw [if_pos (nI_le (Nat.le_refl _) (by omega))]
  · rw [d_bf0]; rfl
end D6
