section D7
variable {N : Nat → Nat} {Q P : Nat → Nat → Int32} {s : ga_M}
theorem dm_isOpen (hN : dWN N) (h : dM N Q P s) {k : Nat} (hk : k < N 6) : f_X12_isOpen (nI k) s = some (aB (decide (P 1 k = -1))) := by
  have hL : N 6 ≤ 40 := hN.2.2.2.2.2.2
  have e1 := h.2.2.1 k hk
  have c6 : ¬ 168 ≤ 40 + k := by omega
  rw [fe_X12_isOpen]; unfold fb_X12_isOpen
  simp (disch := omega) only [e1, c6, d_n0, or_self, or_false, d_a0, d_a1, d_a7, d_a13, d_a21, d_a29, d_a35, d_a40, d_a75, d_a80, d_a115, d_a120, d_a155, d_a160, d_a195, d_r1, d_nI0, d_ix, d_cl, d_le, d_lt, d_eq, d_at, d_pt, if_false, if_true, Int32.add_zero, Option.bind_some, reduceIte, Nat.zero_add, Bool.and_eq_true, decide_eq_true_eq, decide_true, decide_false, Bool.and_true, Bool.true_and, Bool.false_and, Bool.and_false, Bool.true_eq_false, Bool.false_eq_true, false_and, and_false, true_and, and_true]
  by_cases c1 : P 1 k = -1 <;> simp [c1, aB]
theorem dm_isTaught (hN : dWN N) (h : dM N Q P s) {k : Nat} (hk : k < N 6) : f_X12_isTaught (nI k) s = some (aB (aTaught P k)) := by
  have hL : N 6 ≤ 40 := hN.2.2.2.2.2.2
  have e3 := h.2.2.2.2.1 k hk
  have c6 : ¬ 168 ≤ 120 + k := by omega
  rw [fe_X12_isTaught]; unfold fb_X12_isTaught
  rw [dm_isOpen hN h hk]
  simp (disch := omega) only [e3, c6, d_n0, or_self, or_false, d_a0, d_a1, d_a7, d_a13, d_a21, d_a29, d_a35, d_a40, d_a75, d_a80, d_a115, d_a120, d_a155, d_a160, d_a195, d_r1, d_nI0, d_ix, d_cl, d_le, d_lt, d_eq, d_at, d_pt, if_false, if_true, Int32.add_zero, Option.bind_some, reduceIte, Nat.zero_add, Bool.and_eq_true, decide_eq_true_eq, decide_true, decide_false, Bool.and_true, Bool.true_and, Bool.false_and, Bool.and_false, Bool.true_eq_false, Bool.false_eq_true, false_and, and_false, true_and, and_true]
  by_cases c1 : P 1 k = -1 <;> by_cases c2 : P 3 k = 0 <;> simp [c1, c2, aB, aTaught]
theorem dm_taughtBy (hN : dWN N) (h : dM N Q P s) {v : Int32} (hv : v ≠ -1) : f_X12_taughtBy v s = some (aBy N P v) := by
  have hL : N 6 ≤ 40 := hN.2.2.2.2.2.2
  have h6 : s 73 6 = nI (N 6) := h.1.1 6 (by decide)
  rw [fe_X12_taughtBy]
  refine (d_fold0 (F := fun n k a => f_X12_taughtBy_h4 n v a (nI k) s) (f := dCf (fun k => decide (P 1 k = v) && decide (P 3 k = 0))) (g := some) (N := N 6) (by omega) (fun n k a hk => ?_) (fun n a => ?_) 0).trans ?_
  · have e1 := h.2.2.1 k hk
    have c0 : ¬ N 6 ≤ k := by omega
    have c6 : ¬ 168 ≤ 40 + k := by omega
    simp (disch := omega) only [f_X12_taughtBy_h4, h6, e1, c0, c6, d_n0, or_self, or_false, dm_isTaught hN h hk, d_a0, d_a1, d_a7, d_a13, d_a21, d_a29, d_a35, d_a40, d_a75, d_a80, d_a115, d_a120, d_a155, d_a160, d_a195, d_r1, d_nI0, d_ix, d_cl, d_le, d_lt, d_eq, d_at, d_pt, if_false, if_true, Int32.add_zero, Option.bind_some, reduceIte, Nat.zero_add, Bool.and_eq_true, decide_eq_true_eq, decide_true, decide_false, Bool.and_true, Bool.true_and, Bool.false_and, Bool.and_false, Bool.true_eq_false, Bool.false_eq_true, false_and, and_false, true_and, and_true]
    by_cases c1 : P 1 k = v
    · have c4 : ¬ P 1 k = -1 := by rw [c1]; exact hv
      by_cases c2 : P 3 k = 0 <;> simp [c1, c2, hv, aB, aTaught, dCf]
    · simp [c1, dCf]
  · simp only [f_X12_taughtBy_h4, h6]
    rw [if_pos (nI_le (Nat.le_refl _) (by omega))]
  · rfl
theorem dm_loadOf (hN : dWN N) (h : dM N Q P s) {v : Int32} (hv : v ≠ -1) : f_X12_loadOf v s = some (aLoad N Q P v) := by
  rw [fe_X12_loadOf]; unfold fb_X12_loadOf
  rw [dm_taughtBy hN h hv, Option.bind_some, dm_firstBy hN h, Option.bind_some]; rfl
end D7
