section D17
variable {N : Nat → Nat} {Q P : Nat → Nat → Int32} {s : ga_M}
theorem dc_with_12 (hN : dWN N) (h : dC N Q P s) (v : Int32) : f_X7_lessonsWith_12 v s = some (dCt (fun k => decide (Q 6 k = v)) (N 6)) := by
  have hB := dWN_b hN
  rw [fe_X7_lessonsWith_12]
  refine (d_fold0 (F := fun n k a => f_X7_lessonsWith_12_h5 n v a (nI k) s) (f := dCf (fun k => decide (Q 6 k = v))) (g := some) (N := N 6) (by omega) (fun n k a hk => ?_) (fun n a => ?_) 0)
  · simp (disch := omega) only [f_X7_lessonsWith_12_h5, dcN h, dc3 h, dc5 h, dc7 h, dc9 h, dc11 h, dc13 h, dc15 h, dc17 h, dc19 h, dc22 h, dc24 h, dc26 h, dc28 h, dc30 h, d_a0, d_a1, d_a7, d_a13, d_a21, d_a29, d_a35, d_a40, d_a75, d_a80, d_a115, d_a120, d_a155, d_a160, d_a195, d_r1, d_nI0, d_ix, d_cl, d_le, d_lt, d_eq, d_at, d_pt, if_false, if_true, Int32.add_zero, Option.bind_some, reduceIte, Nat.zero_add, Bool.and_eq_true, decide_eq_true_eq, decide_true, decide_false, Bool.and_true, Bool.true_and, Bool.false_and, Bool.and_false, Bool.true_eq_false, Bool.false_eq_true, false_and, and_false, true_and, and_true, d_n0, d_lef, false_or, or_false, or_self, false_and, not_true_eq_false, not_false_eq_true, ne_eq, not_true, not_false_iff, aB_0, aB_1]
    by_cases c1 : Q 6 k = v <;> simp [c1, dCf]
  · simp (disch := omega) only [f_X7_lessonsWith_12_h5, dcN h, dc3 h, dc5 h, dc7 h, dc9 h, dc11 h, dc13 h, dc15 h, dc17 h, dc19 h, dc22 h, dc24 h, dc26 h, dc28 h, dc30 h]
    rw [if_pos (nI_le (Nat.le_refl _) (by omega))]
theorem dc_with_16 (hN : dWN N) (h : dC N Q P s) (v : Int32) : f_X7_lessonsWith_16 v s = some (dCt (fun k => decide (Q 8 k = v)) (N 6)) := by
  have hB := dWN_b hN
  rw [fe_X7_lessonsWith_16]
  refine (d_fold0 (F := fun n k a => f_X7_lessonsWith_16_h5 n v a (nI k) s) (f := dCf (fun k => decide (Q 8 k = v))) (g := some) (N := N 6) (by omega) (fun n k a hk => ?_) (fun n a => ?_) 0)
  · simp (disch := omega) only [f_X7_lessonsWith_16_h5, dcN h, dc3 h, dc5 h, dc7 h, dc9 h, dc11 h, dc13 h, dc15 h, dc17 h, dc19 h, dc22 h, dc24 h, dc26 h, dc28 h, dc30 h, d_a0, d_a1, d_a7, d_a13, d_a21, d_a29, d_a35, d_a40, d_a75, d_a80, d_a115, d_a120, d_a155, d_a160, d_a195, d_r1, d_nI0, d_ix, d_cl, d_le, d_lt, d_eq, d_at, d_pt, if_false, if_true, Int32.add_zero, Option.bind_some, reduceIte, Nat.zero_add, Bool.and_eq_true, decide_eq_true_eq, decide_true, decide_false, Bool.and_true, Bool.true_and, Bool.false_and, Bool.and_false, Bool.true_eq_false, Bool.false_eq_true, false_and, and_false, true_and, and_true, d_n0, d_lef, false_or, or_false, or_self, false_and, not_true_eq_false, not_false_eq_true, ne_eq, not_true, not_false_iff, aB_0, aB_1]
    by_cases c1 : Q 8 k = v <;> simp [c1, dCf]
  · simp (disch := omega) only [f_X7_lessonsWith_16_h5, dcN h, dc3 h, dc5 h, dc7 h, dc9 h, dc11 h, dc13 h, dc15 h, dc17 h, dc19 h, dc22 h, dc24 h, dc26 h, dc28 h, dc30 h]
    rw [if_pos (nI_le (Nat.le_refl _) (by omega))]
theorem dc_with_23 (hN : dWN N) (h : dC N Q P s) (v : Int32) : f_X7_lessonsWith_23 v s = some (dCt (fun k => decide (P 1 k = v)) (N 6)) := by
  have hB := dWN_b hN
  rw [fe_X7_lessonsWith_23]
  refine (d_fold0 (F := fun n k a => f_X7_lessonsWith_23_h5 n v a (nI k) s) (f := dCf (fun k => decide (P 1 k = v))) (g := some) (N := N 6) (by omega) (fun n k a hk => ?_) (fun n a => ?_) 0)
  · simp (disch := omega) only [f_X7_lessonsWith_23_h5, dcN h, dc3 h, dc5 h, dc7 h, dc9 h, dc11 h, dc13 h, dc15 h, dc17 h, dc19 h, dc22 h, dc24 h, dc26 h, dc28 h, dc30 h, d_a0, d_a1, d_a7, d_a13, d_a21, d_a29, d_a35, d_a40, d_a75, d_a80, d_a115, d_a120, d_a155, d_a160, d_a195, d_r1, d_nI0, d_ix, d_cl, d_le, d_lt, d_eq, d_at, d_pt, if_false, if_true, Int32.add_zero, Option.bind_some, reduceIte, Nat.zero_add, Bool.and_eq_true, decide_eq_true_eq, decide_true, decide_false, Bool.and_true, Bool.true_and, Bool.false_and, Bool.and_false, Bool.true_eq_false, Bool.false_eq_true, false_and, and_false, true_and, and_true, d_n0, d_lef, false_or, or_false, or_self, false_and, not_true_eq_false, not_false_eq_true, ne_eq, not_true, not_false_iff, aB_0, aB_1]
    by_cases c1 : P 1 k = v <;> simp [c1, dCf]
  · simp (disch := omega) only [f_X7_lessonsWith_23_h5, dcN h, dc3 h, dc5 h, dc7 h, dc9 h, dc11 h, dc13 h, dc15 h, dc17 h, dc19 h, dc22 h, dc24 h, dc26 h, dc28 h, dc30 h]
    rw [if_pos (nI_le (Nat.le_refl _) (by omega))]
theorem dc_with_25 (hN : dWN N) (h : dC N Q P s) (v : Int32) : f_X7_lessonsWith_25 v s = some (dCt (fun k => decide (P 2 k = v)) (N 6)) := by
  have hB := dWN_b hN
  rw [fe_X7_lessonsWith_25]
  refine (d_fold0 (F := fun n k a => f_X7_lessonsWith_25_h5 n v a (nI k) s) (f := dCf (fun k => decide (P 2 k = v))) (g := some) (N := N 6) (by omega) (fun n k a hk => ?_) (fun n a => ?_) 0)
  · simp (disch := omega) only [f_X7_lessonsWith_25_h5, dcN h, dc3 h, dc5 h, dc7 h, dc9 h, dc11 h, dc13 h, dc15 h, dc17 h, dc19 h, dc22 h, dc24 h, dc26 h, dc28 h, dc30 h, d_a0, d_a1, d_a7, d_a13, d_a21, d_a29, d_a35, d_a40, d_a75, d_a80, d_a115, d_a120, d_a155, d_a160, d_a195, d_r1, d_nI0, d_ix, d_cl, d_le, d_lt, d_eq, d_at, d_pt, if_false, if_true, Int32.add_zero, Option.bind_some, reduceIte, Nat.zero_add, Bool.and_eq_true, decide_eq_true_eq, decide_true, decide_false, Bool.and_true, Bool.true_and, Bool.false_and, Bool.and_false, Bool.true_eq_false, Bool.false_eq_true, false_and, and_false, true_and, and_true, d_n0, d_lef, false_or, or_false, or_self, false_and, not_true_eq_false, not_false_eq_true, ne_eq, not_true, not_false_iff, aB_0, aB_1]
    by_cases c1 : P 2 k = v <;> simp [c1, dCf]
  · simp (disch := omega) only [f_X7_lessonsWith_25_h5, dcN h, dc3 h, dc5 h, dc7 h, dc9 h, dc11 h, dc13 h, dc15 h, dc17 h, dc19 h, dc22 h, dc24 h, dc26 h, dc28 h, dc30 h]
    rw [if_pos (nI_le (Nat.le_refl _) (by omega))]
theorem dc_with_27 (hN : dWN N) (h : dC N Q P s) (v : Int32) : f_X7_lessonsWith_27 v s = some (dCt (fun k => decide (P 3 k = v)) (N 6)) := by
  have hB := dWN_b hN
  rw [fe_X7_lessonsWith_27]
  refine (d_fold0 (F := fun n k a => f_X7_lessonsWith_27_h5 n v a (nI k) s) (f := dCf (fun k => decide (P 3 k = v))) (g := some) (N := N 6) (by omega) (fun n k a hk => ?_) (fun n a => ?_) 0)
  · simp (disch := omega) only [f_X7_lessonsWith_27_h5, dcN h, dc3 h, dc5 h, dc7 h, dc9 h, dc11 h, dc13 h, dc15 h, dc17 h, dc19 h, dc22 h, dc24 h, dc26 h, dc28 h, dc30 h, d_a0, d_a1, d_a7, d_a13, d_a21, d_a29, d_a35, d_a40, d_a75, d_a80, d_a115, d_a120, d_a155, d_a160, d_a195, d_r1, d_nI0, d_ix, d_cl, d_le, d_lt, d_eq, d_at, d_pt, if_false, if_true, Int32.add_zero, Option.bind_some, reduceIte, Nat.zero_add, Bool.and_eq_true, decide_eq_true_eq, decide_true, decide_false, Bool.and_true, Bool.true_and, Bool.false_and, Bool.and_false, Bool.true_eq_false, Bool.false_eq_true, false_and, and_false, true_and, and_true, d_n0, d_lef, false_or, or_false, or_self, false_and, not_true_eq_false, not_false_eq_true, ne_eq, not_true, not_false_iff, aB_0, aB_1]
    by_cases c1 : P 3 k = v <;> simp [c1, dCf]
  · simp (disch := omega) only [f_X7_lessonsWith_27_h5, dcN h, dc3 h, dc5 h, dc7 h, dc9 h, dc11 h, dc13 h, dc15 h, dc17 h, dc19 h, dc22 h, dc24 h, dc26 h, dc28 h, dc30 h]
    rw [if_pos (nI_le (Nat.le_refl _) (by omega))]
theorem dc_differs (hN : dWN N) (h : dC N Q P s) {k : Nat} (hk : k < N 6) : v_X3_differs (nI k) s = aB (aDiff Q P k) := by
  have hB := dWN_b hN
  rw [ve_X3_differs]; unfold vb_X3_differs
  simp (disch := omega) only [dc_isSupervised hN h hk, dcN h, dc3 h, dc5 h, dc7 h, dc9 h, dc11 h, dc13 h, dc15 h, dc17 h, dc19 h, dc22 h, dc24 h, dc26 h, dc28 h, dc30 h, d_a0, d_a1, d_a7, d_a13, d_a21, d_a29, d_a35, d_a40, d_a75, d_a80, d_a115, d_a120, d_a155, d_a160, d_a195, d_r1, d_nI0, d_ix, d_cl, d_le, d_lt, d_eq, d_at, d_pt, if_false, if_true, Int32.add_zero, Option.bind_some, reduceIte, Nat.zero_add, Bool.and_eq_true, decide_eq_true_eq, decide_true, decide_false, Bool.and_true, Bool.true_and, Bool.false_and, Bool.and_false, Bool.true_eq_false, Bool.false_eq_true, false_and, and_false, true_and, and_true, d_n0, d_lef, false_or, or_false, or_self, false_and, not_true_eq_false, not_false_eq_true, ne_eq, not_true, not_false_iff, aB_0, aB_1]
  by_cases c1 : P 0 k = Q 7 k <;> by_cases c2 : P 1 k = Q 8 k <;> by_cases c3 : P 2 k = Q 9 k <;> by_cases c4 : P 3 k = 1 <;> simp [c1, c2, c3, c4, aB, aDiff]
theorem dc_differing (hN : dWN N) (h : dC N Q P s) : f_X3_differingLessons s = some (aDiffs N Q P) := by
  have hB := dWN_b hN
  rw [fe_X3_differingLessons]
  refine (d_fold0 (F := fun n k a => f_X3_differingLessons_h4 n a (nI k) s) (f := dCf (aDiff Q P)) (g := some) (N := N 6) (by omega) (fun n k a hk => ?_) (fun n a => ?_) 0)
  · simp (disch := omega) only [f_X3_differingLessons_h4, dcN h, dc3 h, dc5 h, dc7 h, dc9 h, dc11 h, dc13 h, dc15 h, dc17 h, dc19 h, dc22 h, dc24 h, dc26 h, dc28 h, dc30 h, dc_differs hN h hk, d_a0, d_a1, d_a7, d_a13, d_a21, d_a29, d_a35, d_a40, d_a75, d_a80, d_a115, d_a120, d_a155, d_a160, d_a195, d_r1, d_nI0, d_ix, d_cl, d_le, d_lt, d_eq, d_at, d_pt, if_false, if_true, Int32.add_zero, Option.bind_some, reduceIte, Nat.zero_add, Bool.and_eq_true, decide_eq_true_eq, decide_true, decide_false, Bool.and_true, Bool.true_and, Bool.false_and, Bool.and_false, Bool.true_eq_false, Bool.false_eq_true, false_and, and_false, true_and, and_true, d_n0, d_lef, false_or, or_false, or_self, false_and, not_true_eq_false, not_false_eq_true, ne_eq, not_true, not_false_iff, aB_0, aB_1]
    cases c1 : aDiff Q P k <;> simp [c1, dCf]
  · simp (disch := omega) only [f_X3_differingLessons_h4, dcN h, dc3 h, dc5 h, dc7 h, dc9 h, dc11 h, dc13 h, dc15 h, dc17 h, dc19 h, dc22 h, dc24 h, dc26 h, dc28 h, dc30 h]
    rw [if_pos (nI_le (Nat.le_refl _) (by omega))]
theorem dc_open (hN : dWN N) (h : dC N Q P s) : f_X3_openLessons s = some (dCt (fun k => decide (P 1 k = -1)) (N 6)) := by
  rw [fe_X3_openLessons]; unfold fb_X3_openLessons
  rw [dc_with_23 hN h]; rfl
theorem dc_super (hN : dWN N) (h : dC N Q P s) : f_X3_supervisedLessons s = some (dCt (fun k => decide (P 3 k = 1)) (N 6)) := by
  rw [fe_X3_supervisedLessons]; unfold fb_X3_supervisedLessons
  rw [dc_with_27 hN h]; rfl
theorem dc_taughtBy (hN : dWN N) (h : dC N Q P s) (v : Int32) : f_X3_taughtBy v s = some (aBy N P v) := by
  have hB := dWN_b hN
  rw [fe_X3_taughtBy]
  refine (d_fold0 (F := fun n k a => f_X3_taughtBy_h4 n v a (nI k) s) (f := dCf (fun k => decide (P 1 k = v) && decide (P 3 k = 0))) (g := some) (N := N 6) (by omega) (fun n k a hk => ?_) (fun n a => ?_) 0)
  · simp (disch := omega) only [f_X3_taughtBy_h4, dcN h, dc3 h, dc5 h, dc7 h, dc9 h, dc11 h, dc13 h, dc15 h, dc17 h, dc19 h, dc22 h, dc24 h, dc26 h, dc28 h, dc30 h, d_a0, d_a1, d_a7, d_a13, d_a21, d_a29, d_a35, d_a40, d_a75, d_a80, d_a115, d_a120, d_a155, d_a160, d_a195, d_r1, d_nI0, d_ix, d_cl, d_le, d_lt, d_eq, d_at, d_pt, if_false, if_true, Int32.add_zero, Option.bind_some, reduceIte, Nat.zero_add, Bool.and_eq_true, decide_eq_true_eq, decide_true, decide_false, Bool.and_true, Bool.true_and, Bool.false_and, Bool.and_false, Bool.true_eq_false, Bool.false_eq_true, false_and, and_false, true_and, and_true, d_n0, d_lef, false_or, or_false, or_self, false_and, not_true_eq_false, not_false_eq_true, ne_eq, not_true, not_false_iff, aB_0, aB_1]
    by_cases c1 : P 1 k = v <;> by_cases c2 : P 3 k = 0 <;> simp [c1, c2, dCf]
  · simp (disch := omega) only [f_X3_taughtBy_h4, dcN h, dc3 h, dc5 h, dc7 h, dc9 h, dc11 h, dc13 h, dc15 h, dc17 h, dc19 h, dc22 h, dc24 h, dc26 h, dc28 h, dc30 h]
    rw [if_pos (nI_le (Nat.le_refl _) (by omega))]
theorem dc_dutiesOf (hN : dWN N) (h : dC N Q P s) (v : Int32) : f_X3_dutiesOf v s = some (aDut N P v) := by
  have hB := dWN_b hN
  rw [fe_X3_dutiesOf]
  refine (d_fold0 (F := fun n k a => f_X3_dutiesOf_h4 n v a (nI k) s) (f := dCf (fun k => decide (P 1 k = v) && decide (P 3 k = 1))) (g := some) (N := N 6) (by omega) (fun n k a hk => ?_) (fun n a => ?_) 0)
  · simp (disch := omega) only [f_X3_dutiesOf_h4, dcN h, dc3 h, dc5 h, dc7 h, dc9 h, dc11 h, dc13 h, dc15 h, dc17 h, dc19 h, dc22 h, dc24 h, dc26 h, dc28 h, dc30 h, dc_isSupervised hN h hk, d_a0, d_a1, d_a7, d_a13, d_a21, d_a29, d_a35, d_a40, d_a75, d_a80, d_a115, d_a120, d_a155, d_a160, d_a195, d_r1, d_nI0, d_ix, d_cl, d_le, d_lt, d_eq, d_at, d_pt, if_false, if_true, Int32.add_zero, Option.bind_some, reduceIte, Nat.zero_add, Bool.and_eq_true, decide_eq_true_eq, decide_true, decide_false, Bool.and_true, Bool.true_and, Bool.false_and, Bool.and_false, Bool.true_eq_false, Bool.false_eq_true, false_and, and_false, true_and, and_true, d_n0, d_lef, false_or, or_false, or_self, false_and, not_true_eq_false, not_false_eq_true, ne_eq, not_true, not_false_iff, aB_0, aB_1]
    by_cases c1 : P 1 k = v <;> by_cases c2 : P 3 k = 1 <;> simp [c1, c2, dCf]
  · simp (disch := omega) only [f_X3_dutiesOf_h4, dcN h, dc3 h, dc5 h, dc7 h, dc9 h, dc11 h, dc13 h, dc15 h, dc17 h, dc19 h, dc22 h, dc24 h, dc26 h, dc28 h, dc30 h]
    rw [if_pos (nI_le (Nat.le_refl _) (by omega))]
theorem dc_qualifiedFor (hN : dWN N) (h : dC N Q P s) {j : Nat} (hj : j < 31) : f_X7_qualifiedFor (nI j) s = some (dMs (fun k => dHb (Q 3 k) (nI j)) (N 3)) := by
  have hB := dWN_b hN
  rw [fe_X7_qualifiedFor]
  refine (d_fold0 (F := fun n k a => f_X7_qualifiedFor_h4 n (nI j) a (nI k) s) (f := dMf (fun k => dHb (Q 3 k) (nI j))) (g := some) (N := N 3) (by omega) (fun n k a hk => ?_) (fun n a => ?_) 0)
  · simp (disch := omega) only [f_X7_qualifiedFor_h4, dcN h, dc3 h, dc5 h, dc7 h, dc9 h, dc11 h, dc13 h, dc15 h, dc17 h, dc19 h, dc22 h, dc24 h, dc26 h, dc28 h, dc30 h, dc_hasBit hj, d_a0, d_a1, d_a7, d_a13, d_a21, d_a29, d_a35, d_a40, d_a75, d_a80, d_a115, d_a120, d_a155, d_a160, d_a195, d_r1, d_nI0, d_ix, d_cl, d_le, d_lt, d_eq, d_at, d_pt, if_false, if_true, Int32.add_zero, Option.bind_some, reduceIte, Nat.zero_add, Bool.and_eq_true, decide_eq_true_eq, decide_true, decide_false, Bool.and_true, Bool.true_and, Bool.false_and, Bool.and_false, Bool.true_eq_false, Bool.false_eq_true, false_and, and_false, true_and, and_true, d_n0, d_lef, false_or, or_false, or_self, false_and, not_true_eq_false, not_false_eq_true, ne_eq, not_true, not_false_iff, aB_0, aB_1]
    cases c1 : dHb (Q 3 k) (nI j) <;> simp [c1, dMf]
  · simp (disch := omega) only [f_X7_qualifiedFor_h4, dcN h, dc3 h, dc5 h, dc7 h, dc9 h, dc11 h, dc13 h, dc15 h, dc17 h, dc19 h, dc22 h, dc24 h, dc26 h, dc28 h, dc30 h]
    rw [if_pos (nI_le (Nat.le_refl _) (by omega))]
end D17
