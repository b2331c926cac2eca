section E0
/-! ===== what the class answers, by the abstract state ===== -/
variable {N : Nat → Nat} {Q P : Nat → Nat → Int32} {s : ga_M}
theorem x_lesson0 (hW : dW N Q P) (h : dC N Q P s) {i : Nat} (hi : i < N 6) : f_X11_lesson (nI i) 0 s = some (.inl (P 0 i)) := by
  have hN := hW.1
  have hB := dWN_b hN
  rw [fe_X11_lesson]; unfold fb_X11_lesson
  simp +decide (disch := omega) only [cL_y hN h hi, dcN h, dc3 h, dc5 h, dc7 h, dc9 h, dc11 h, dc13 h, dc15 h, dc17 h, dc19 h, dc22 h, dc24 h, dc26 h, dc28 h, dc30 h, d_10, d_01, d_00, d_11, true_or, or_true, or_self, if_true, if_false, reduceIte, Option.elim_none, Option.elim_some, Option.bind_some, d_up_up, d_a0, d_a1, d_a7, d_a13, d_a21, d_a29, d_a35, d_a40, d_a75, d_a80, d_a115, d_a120, d_a155, d_a160, d_a195, d_r1, d_nI0, d_ix, d_cl, d_le, d_lt, d_eq, d_at, d_pt, if_false, if_true, Int32.add_zero, Option.bind_some, reduceIte, Nat.zero_add, Bool.and_eq_true, decide_eq_true_eq, decide_true, decide_false, Bool.and_true, Bool.true_and, Bool.false_and, Bool.and_false, Bool.true_eq_false, Bool.false_eq_true, false_and, and_false, true_and, and_true, d_n0, d_lef, false_or, or_false, or_self, false_and, not_true_eq_false, not_false_eq_true, ne_eq, not_true, not_false_iff, aB_0, aB_1]
theorem x_lesson1 (hW : dW N Q P) (h : dC N Q P s) {i : Nat} (hi : i < N 6) : f_X11_lesson (nI i) 1 s = some (.inl (Q 5 i)) := by
  have hN := hW.1
  have hB := dWN_b hN
  rw [fe_X11_lesson]; unfold fb_X11_lesson
  simp +decide (disch := omega) only [cL_y hN h hi, dcN h, dc3 h, dc5 h, dc7 h, dc9 h, dc11 h, dc13 h, dc15 h, dc17 h, dc19 h, dc22 h, dc24 h, dc26 h, dc28 h, dc30 h, d_10, d_01, d_00, d_11, true_or, or_true, or_self, if_true, if_false, reduceIte, Option.elim_none, Option.elim_some, Option.bind_some, d_up_up, d_a0, d_a1, d_a7, d_a13, d_a21, d_a29, d_a35, d_a40, d_a75, d_a80, d_a115, d_a120, d_a155, d_a160, d_a195, d_r1, d_nI0, d_ix, d_cl, d_le, d_lt, d_eq, d_at, d_pt, if_false, if_true, Int32.add_zero, Option.bind_some, reduceIte, Nat.zero_add, Bool.and_eq_true, decide_eq_true_eq, decide_true, decide_false, Bool.and_true, Bool.true_and, Bool.false_and, Bool.and_false, Bool.true_eq_false, Bool.false_eq_true, false_and, and_false, true_and, and_true, d_n0, d_lef, false_or, or_false, or_self, false_and, not_true_eq_false, not_false_eq_true, ne_eq, not_true, not_false_iff, aB_0, aB_1]
theorem x_lesson2 (hW : dW N Q P) (h : dC N Q P s) {i : Nat} (hi : i < N 6) : f_X11_lesson (nI i) 2 s = some (.inl (Q 6 i)) := by
  have hN := hW.1
  have hB := dWN_b hN
  rw [fe_X11_lesson]; unfold fb_X11_lesson
  simp +decide (disch := omega) only [cL_y hN h hi, dcN h, dc3 h, dc5 h, dc7 h, dc9 h, dc11 h, dc13 h, dc15 h, dc17 h, dc19 h, dc22 h, dc24 h, dc26 h, dc28 h, dc30 h, d_10, d_01, d_00, d_11, true_or, or_true, or_self, if_true, if_false, reduceIte, Option.elim_none, Option.elim_some, Option.bind_some, d_up_up, d_a0, d_a1, d_a7, d_a13, d_a21, d_a29, d_a35, d_a40, d_a75, d_a80, d_a115, d_a120, d_a155, d_a160, d_a195, d_r1, d_nI0, d_ix, d_cl, d_le, d_lt, d_eq, d_at, d_pt, if_false, if_true, Int32.add_zero, Option.bind_some, reduceIte, Nat.zero_add, Bool.and_eq_true, decide_eq_true_eq, decide_true, decide_false, Bool.and_true, Bool.true_and, Bool.false_and, Bool.and_false, Bool.true_eq_false, Bool.false_eq_true, false_and, and_false, true_and, and_true, d_n0, d_lef, false_or, or_false, or_self, false_and, not_true_eq_false, not_false_eq_true, ne_eq, not_true, not_false_iff, aB_0, aB_1]
theorem x_lesson3 (hW : dW N Q P) (h : dC N Q P s) {i : Nat} (hi : i < N 6) : f_X11_lesson (nI i) 3 s = some (.inl (P 1 i)) := by
  have hN := hW.1
  have hB := dWN_b hN
  rw [fe_X11_lesson]; unfold fb_X11_lesson
  simp +decide (disch := omega) only [cL_y hN h hi, dcN h, dc3 h, dc5 h, dc7 h, dc9 h, dc11 h, dc13 h, dc15 h, dc17 h, dc19 h, dc22 h, dc24 h, dc26 h, dc28 h, dc30 h, d_10, d_01, d_00, d_11, true_or, or_true, or_self, if_true, if_false, reduceIte, Option.elim_none, Option.elim_some, Option.bind_some, d_up_up, d_a0, d_a1, d_a7, d_a13, d_a21, d_a29, d_a35, d_a40, d_a75, d_a80, d_a115, d_a120, d_a155, d_a160, d_a195, d_r1, d_nI0, d_ix, d_cl, d_le, d_lt, d_eq, d_at, d_pt, if_false, if_true, Int32.add_zero, Option.bind_some, reduceIte, Nat.zero_add, Bool.and_eq_true, decide_eq_true_eq, decide_true, decide_false, Bool.and_true, Bool.true_and, Bool.false_and, Bool.and_false, Bool.true_eq_false, Bool.false_eq_true, false_and, and_false, true_and, and_true, d_n0, d_lef, false_or, or_false, or_self, false_and, not_true_eq_false, not_false_eq_true, ne_eq, not_true, not_false_iff, aB_0, aB_1]
theorem x_lesson4 (hW : dW N Q P) (h : dC N Q P s) {i : Nat} (hi : i < N 6) : f_X11_lesson (nI i) 4 s = some (.inl (P 2 i)) := by
  have hN := hW.1
  have hB := dWN_b hN
  rw [fe_X11_lesson]; unfold fb_X11_lesson
  simp +decide (disch := omega) only [cL_y hN h hi, dcN h, dc3 h, dc5 h, dc7 h, dc9 h, dc11 h, dc13 h, dc15 h, dc17 h, dc19 h, dc22 h, dc24 h, dc26 h, dc28 h, dc30 h, d_10, d_01, d_00, d_11, true_or, or_true, or_self, if_true, if_false, reduceIte, Option.elim_none, Option.elim_some, Option.bind_some, d_up_up, d_a0, d_a1, d_a7, d_a13, d_a21, d_a29, d_a35, d_a40, d_a75, d_a80, d_a115, d_a120, d_a155, d_a160, d_a195, d_r1, d_nI0, d_ix, d_cl, d_le, d_lt, d_eq, d_at, d_pt, if_false, if_true, Int32.add_zero, Option.bind_some, reduceIte, Nat.zero_add, Bool.and_eq_true, decide_eq_true_eq, decide_true, decide_false, Bool.and_true, Bool.true_and, Bool.false_and, Bool.and_false, Bool.true_eq_false, Bool.false_eq_true, false_and, and_false, true_and, and_true, d_n0, d_lef, false_or, or_false, or_self, false_and, not_true_eq_false, not_false_eq_true, ne_eq, not_true, not_false_iff, aB_0, aB_1]
theorem x_lesson5 (hW : dW N Q P) (h : dC N Q P s) {i : Nat} (hi : i < N 6) : f_X11_lesson (nI i) 5 s = some (.inl (P 3 i)) := by
  have hN := hW.1
  have hB := dWN_b hN
  rw [fe_X11_lesson]; unfold fb_X11_lesson
  simp +decide (disch := omega) only [cL_y hN h hi, dc_isSupervised hN h hi, dcN h, dc3 h, dc5 h, dc7 h, dc9 h, dc11 h, dc13 h, dc15 h, dc17 h, dc19 h, dc22 h, dc24 h, dc26 h, dc28 h, dc30 h, d_10, d_01, d_00, d_11, true_or, or_true, or_self, if_true, if_false, reduceIte, Option.elim_none, Option.elim_some, Option.bind_some, d_up_up, d_a0, d_a1, d_a7, d_a13, d_a21, d_a29, d_a35, d_a40, d_a75, d_a80, d_a115, d_a120, d_a155, d_a160, d_a195, d_r1, d_nI0, d_ix, d_cl, d_le, d_lt, d_eq, d_at, d_pt, if_false, if_true, Int32.add_zero, Option.bind_some, reduceIte, Nat.zero_add, Bool.and_eq_true, decide_eq_true_eq, decide_true, decide_false, Bool.and_true, Bool.true_and, Bool.false_and, Bool.and_false, Bool.true_eq_false, Bool.false_eq_true, false_and, and_false, true_and, and_true, d_n0, d_lef, false_or, or_false, or_self, false_and, not_true_eq_false, not_false_eq_true, ne_eq, not_true, not_false_iff, aB_0, aB_1]
  rcases hW.2.2.2.2.2.1 i hi with c1 | ⟨c1, _⟩ <;> simp [c1]
theorem x_lesson9 (hW : dW N Q P) (h : dC N Q P s) {i : Nat} (hi : i < N 6) : f_X11_lesson (nI i) 9 s = some (.inl (aB (aDiff Q P i))) := by
  have hN := hW.1
  have hB := dWN_b hN
  rw [fe_X11_lesson]; unfold fb_X11_lesson
  simp +decide (disch := omega) only [cL_y hN h hi, dc_differs hN h hi, dcN h, dc3 h, dc5 h, dc7 h, dc9 h, dc11 h, dc13 h, dc15 h, dc17 h, dc19 h, dc22 h, dc24 h, dc26 h, dc28 h, dc30 h, d_10, d_01, d_00, d_11, true_or, or_true, or_self, if_true, if_false, reduceIte, Option.elim_none, Option.elim_some, Option.bind_some, d_up_up, d_a0, d_a1, d_a7, d_a13, d_a21, d_a29, d_a35, d_a40, d_a75, d_a80, d_a115, d_a120, d_a155, d_a160, d_a195, d_r1, d_nI0, d_ix, d_cl, d_le, d_lt, d_eq, d_at, d_pt, if_false, if_true, Int32.add_zero, Option.bind_some, reduceIte, Nat.zero_add, Bool.and_eq_true, decide_eq_true_eq, decide_true, decide_false, Bool.and_true, Bool.true_and, Bool.false_and, Bool.and_false, Bool.true_eq_false, Bool.false_eq_true, false_and, and_false, true_and, and_true, d_n0, d_lef, false_or, or_false, or_self, false_and, not_true_eq_false, not_false_eq_true, ne_eq, not_true, not_false_iff, aB_0, aB_1]
  cases aDiff Q P i <;> rfl
theorem x_teacher1 (hW : dW N Q P) (h : dC N Q P s) {i : Nat} (hi : i < N 3) : f_X11_teacher (nI i) 1 s = some (.inl (Q 3 i)) := by
  have hN := hW.1
  have hB := dWN_b hN
  rw [fe_X11_teacher]; unfold fb_X11_teacher
  simp +decide (disch := omega) only [cT_y hN h hi, dcN h, dc3 h, dc5 h, dc7 h, dc9 h, dc11 h, dc13 h, dc15 h, dc17 h, dc19 h, dc22 h, dc24 h, dc26 h, dc28 h, dc30 h, d_10, d_01, d_00, d_11, true_or, or_true, or_self, if_true, if_false, reduceIte, Option.elim_none, Option.elim_some, Option.bind_some, d_up_up, d_a0, d_a1, d_a7, d_a13, d_a21, d_a29, d_a35, d_a40, d_a75, d_a80, d_a115, d_a120, d_a155, d_a160, d_a195, d_r1, d_nI0, d_ix, d_cl, d_le, d_lt, d_eq, d_at, d_pt, if_false, if_true, Int32.add_zero, Option.bind_some, reduceIte, Nat.zero_add, Bool.and_eq_true, decide_eq_true_eq, decide_true, decide_false, Bool.and_true, Bool.true_and, Bool.false_and, Bool.and_false, Bool.true_eq_false, Bool.false_eq_true, false_and, and_false, true_and, and_true, d_n0, d_lef, false_or, or_false, or_self, false_and, not_true_eq_false, not_false_eq_true, ne_eq, not_true, not_false_iff, aB_0, aB_1]
theorem x_teacher2 (hW : dW N Q P) (h : dC N Q P s) {i : Nat} (hi : i < N 3) : f_X11_teacher (nI i) 2 s = some (.inl (P 4 i)) := by
  have hN := hW.1
  have hB := dWN_b hN
  rw [fe_X11_teacher]; unfold fb_X11_teacher
  simp +decide (disch := omega) only [cT_y hN h hi, dcN h, dc3 h, dc5 h, dc7 h, dc9 h, dc11 h, dc13 h, dc15 h, dc17 h, dc19 h, dc22 h, dc24 h, dc26 h, dc28 h, dc30 h, d_10, d_01, d_00, d_11, true_or, or_true, or_self, if_true, if_false, reduceIte, Option.elim_none, Option.elim_some, Option.bind_some, d_up_up, d_a0, d_a1, d_a7, d_a13, d_a21, d_a29, d_a35, d_a40, d_a75, d_a80, d_a115, d_a120, d_a155, d_a160, d_a195, d_r1, d_nI0, d_ix, d_cl, d_le, d_lt, d_eq, d_at, d_pt, if_false, if_true, Int32.add_zero, Option.bind_some, reduceIte, Nat.zero_add, Bool.and_eq_true, decide_eq_true_eq, decide_true, decide_false, Bool.and_true, Bool.true_and, Bool.false_and, Bool.and_false, Bool.true_eq_false, Bool.false_eq_true, false_and, and_false, true_and, and_true, d_n0, d_lef, false_or, or_false, or_self, false_and, not_true_eq_false, not_false_eq_true, ne_eq, not_true, not_false_iff, aB_0, aB_1]
theorem x_teacher3 (hW : dW N Q P) (h : dC N Q P s) {i : Nat} (hi : i < N 3) : f_X11_teacher (nI i) 3 s = some (.inl (aBy N P (nI i))) := by
  have hN := hW.1
  have hB := dWN_b hN
  rw [fe_X11_teacher]; unfold fb_X11_teacher
  simp +decide (disch := omega) only [cT_y hN h hi, dc_taughtBy hN h, dcN h, dc3 h, dc5 h, dc7 h, dc9 h, dc11 h, dc13 h, dc15 h, dc17 h, dc19 h, dc22 h, dc24 h, dc26 h, dc28 h, dc30 h, d_10, d_01, d_00, d_11, true_or, or_true, or_self, if_true, if_false, reduceIte, Option.elim_none, Option.elim_some, Option.bind_some, d_up_up, d_a0, d_a1, d_a7, d_a13, d_a21, d_a29, d_a35, d_a40, d_a75, d_a80, d_a115, d_a120, d_a155, d_a160, d_a195, d_r1, d_nI0, d_ix, d_cl, d_le, d_lt, d_eq, d_at, d_pt, if_false, if_true, Int32.add_zero, Option.bind_some, reduceIte, Nat.zero_add, Bool.and_eq_true, decide_eq_true_eq, decide_true, decide_false, Bool.and_true, Bool.true_and, Bool.false_and, Bool.and_false, Bool.true_eq_false, Bool.false_eq_true, false_and, and_false, true_and, and_true, d_n0, d_lef, false_or, or_false, or_self, false_and, not_true_eq_false, not_false_eq_true, ne_eq, not_true, not_false_iff, aB_0, aB_1]
theorem x_teacher4 (hW : dW N Q P) (h : dC N Q P s) {i : Nat} (hi : i < N 3) : f_X11_teacher (nI i) 4 s = some (.inl (aLoad N Q P (nI i))) := by
  have hN := hW.1
  have hB := dWN_b hN
  rw [fe_X11_teacher]; unfold fb_X11_teacher
  simp +decide (disch := omega) only [cT_y hN h hi, dc_loadOf hN h, dcN h, dc3 h, dc5 h, dc7 h, dc9 h, dc11 h, dc13 h, dc15 h, dc17 h, dc19 h, dc22 h, dc24 h, dc26 h, dc28 h, dc30 h, d_10, d_01, d_00, d_11, true_or, or_true, or_self, if_true, if_false, reduceIte, Option.elim_none, Option.elim_some, Option.bind_some, d_up_up, d_a0, d_a1, d_a7, d_a13, d_a21, d_a29, d_a35, d_a40, d_a75, d_a80, d_a115, d_a120, d_a155, d_a160, d_a195, d_r1, d_nI0, d_ix, d_cl, d_le, d_lt, d_eq, d_at, d_pt, if_false, if_true, Int32.add_zero, Option.bind_some, reduceIte, Nat.zero_add, Bool.and_eq_true, decide_eq_true_eq, decide_true, decide_false, Bool.and_true, Bool.true_and, Bool.false_and, Bool.and_false, Bool.true_eq_false, Bool.false_eq_true, false_and, and_false, true_and, and_true, d_n0, d_lef, false_or, or_false, or_self, false_and, not_true_eq_false, not_false_eq_true, ne_eq, not_true, not_false_iff, aB_0, aB_1]
theorem x_teacher5 (hW : dW N Q P) (h : dC N Q P s) {i : Nat} (hi : i < N 3) : f_X11_teacher (nI i) 5 s = some (.inl (aDut N P (nI i))) := by
  have hN := hW.1
  have hB := dWN_b hN
  rw [fe_X11_teacher]; unfold fb_X11_teacher
  simp +decide (disch := omega) only [cT_y hN h hi, dc_dutiesOf hN h, dcN h, dc3 h, dc5 h, dc7 h, dc9 h, dc11 h, dc13 h, dc15 h, dc17 h, dc19 h, dc22 h, dc24 h, dc26 h, dc28 h, dc30 h, d_10, d_01, d_00, d_11, true_or, or_true, or_self, if_true, if_false, reduceIte, Option.elim_none, Option.elim_some, Option.bind_some, d_up_up, d_a0, d_a1, d_a7, d_a13, d_a21, d_a29, d_a35, d_a40, d_a75, d_a80, d_a115, d_a120, d_a155, d_a160, d_a195, d_r1, d_nI0, d_ix, d_cl, d_le, d_lt, d_eq, d_at, d_pt, if_false, if_true, Int32.add_zero, Option.bind_some, reduceIte, Nat.zero_add, Bool.and_eq_true, decide_eq_true_eq, decide_true, decide_false, Bool.and_true, Bool.true_and, Bool.false_and, Bool.and_false, Bool.true_eq_false, Bool.false_eq_true, false_and, and_false, true_and, and_true, d_n0, d_lef, false_or, or_false, or_self, false_and, not_true_eq_false, not_false_eq_true, ne_eq, not_true, not_false_iff, aB_0, aB_1]
theorem x_teacher6 (hW : dW N Q P) (h : dC N Q P s) {i : Nat} (hi : i < N 3) : f_X11_teacher (nI i) 6 s = some (.inl (aFirst N Q (nI i))) := by
  have hN := hW.1
  have hB := dWN_b hN
  rw [fe_X11_teacher]; unfold fb_X11_teacher
  simp +decide (disch := omega) only [cT_y hN h hi, dc_with_16 hN h, dcN h, dc3 h, dc5 h, dc7 h, dc9 h, dc11 h, dc13 h, dc15 h, dc17 h, dc19 h, dc22 h, dc24 h, dc26 h, dc28 h, dc30 h, d_10, d_01, d_00, d_11, true_or, or_true, or_self, if_true, if_false, reduceIte, Option.elim_none, Option.elim_some, Option.bind_some, d_up_up, d_a0, d_a1, d_a7, d_a13, d_a21, d_a29, d_a35, d_a40, d_a75, d_a80, d_a115, d_a120, d_a155, d_a160, d_a195, d_r1, d_nI0, d_ix, d_cl, d_le, d_lt, d_eq, d_at, d_pt, if_false, if_true, Int32.add_zero, Option.bind_some, reduceIte, Nat.zero_add, Bool.and_eq_true, decide_eq_true_eq, decide_true, decide_false, Bool.and_true, Bool.true_and, Bool.false_and, Bool.and_false, Bool.true_eq_false, Bool.false_eq_true, false_and, and_false, true_and, and_true, d_n0, d_lef, false_or, or_false, or_self, false_and, not_true_eq_false, not_false_eq_true, ne_eq, not_true, not_false_iff, aB_0, aB_1]
  rfl
theorem x_room0 (hW : dW N Q P) (h : dC N Q P s) {i : Nat} (hi : i < N 4) : f_X11_room (nI i) 0 s = some (.inl (Q 4 i)) := by
  have hN := hW.1
  have hB := dWN_b hN
  rw [fe_X11_room]; unfold fb_X11_room
  simp +decide (disch := omega) only [cR_y hN h hi, dcN h, dc3 h, dc5 h, dc7 h, dc9 h, dc11 h, dc13 h, dc15 h, dc17 h, dc19 h, dc22 h, dc24 h, dc26 h, dc28 h, dc30 h, d_10, d_01, d_00, d_11, true_or, or_true, or_self, if_true, if_false, reduceIte, Option.elim_none, Option.elim_some, Option.bind_some, d_up_up, d_a0, d_a1, d_a7, d_a13, d_a21, d_a29, d_a35, d_a40, d_a75, d_a80, d_a115, d_a120, d_a155, d_a160, d_a195, d_r1, d_nI0, d_ix, d_cl, d_le, d_lt, d_eq, d_at, d_pt, if_false, if_true, Int32.add_zero, Option.bind_some, reduceIte, Nat.zero_add, Bool.and_eq_true, decide_eq_true_eq, decide_true, decide_false, Bool.and_true, Bool.true_and, Bool.false_and, Bool.and_false, Bool.true_eq_false, Bool.false_eq_true, false_and, and_false, true_and, and_true, d_n0, d_lef, false_or, or_false, or_self, false_and, not_true_eq_false, not_false_eq_true, ne_eq, not_true, not_false_iff, aB_0, aB_1]
theorem x_count0 (hW : dW N Q P) (h : dC N Q P s) : f_X11_count 0 s = some (.inl (nI (N 0))) := by
  have hN := hW.1
  have hB := dWN_b hN
  rw [fe_X11_count]; unfold fb_X11_count
  simp +decide (disch := omega) only [dcN h, dc3 h, dc5 h, dc7 h, dc9 h, dc11 h, dc13 h, dc15 h, dc17 h, dc19 h, dc22 h, dc24 h, dc26 h, dc28 h, dc30 h, d_10, d_01, d_00, d_11, true_or, or_true, or_self, if_true, if_false, reduceIte, Option.elim_none, Option.elim_some, Option.bind_some, d_up_up, d_a0, d_a1, d_a7, d_a13, d_a21, d_a29, d_a35, d_a40, d_a75, d_a80, d_a115, d_a120, d_a155, d_a160, d_a195, d_r1, d_nI0, d_ix, d_cl, d_le, d_lt, d_eq, d_at, d_pt, if_false, if_true, Int32.add_zero, Option.bind_some, reduceIte, Nat.zero_add, Bool.and_eq_true, decide_eq_true_eq, decide_true, decide_false, Bool.and_true, Bool.true_and, Bool.false_and, Bool.and_false, Bool.true_eq_false, Bool.false_eq_true, false_and, and_false, true_and, and_true, d_n0, d_lef, false_or, or_false, or_self, false_and, not_true_eq_false, not_false_eq_true, ne_eq, not_true, not_false_iff, aB_0, aB_1]
theorem x_count1 (hW : dW N Q P) (h : dC N Q P s) : f_X11_count 1 s = some (.inl (nI (N 1))) := by
  have hN := hW.1
  have hB := dWN_b hN
  rw [fe_X11_count]; unfold fb_X11_count
  simp +decide (disch := omega) only [dcN h, dc3 h, dc5 h, dc7 h, dc9 h, dc11 h, dc13 h, dc15 h, dc17 h, dc19 h, dc22 h, dc24 h, dc26 h, dc28 h, dc30 h, d_10, d_01, d_00, d_11, true_or, or_true, or_self, if_true, if_false, reduceIte, Option.elim_none, Option.elim_some, Option.bind_some, d_up_up, d_a0, d_a1, d_a7, d_a13, d_a21, d_a29, d_a35, d_a40, d_a75, d_a80, d_a115, d_a120, d_a155, d_a160, d_a195, d_r1, d_nI0, d_ix, d_cl, d_le, d_lt, d_eq, d_at, d_pt, if_false, if_true, Int32.add_zero, Option.bind_some, reduceIte, Nat.zero_add, Bool.and_eq_true, decide_eq_true_eq, decide_true, decide_false, Bool.and_true, Bool.true_and, Bool.false_and, Bool.and_false, Bool.true_eq_false, Bool.false_eq_true, false_and, and_false, true_and, and_true, d_n0, d_lef, false_or, or_false, or_self, false_and, not_true_eq_false, not_false_eq_true, ne_eq, not_true, not_false_iff, aB_0, aB_1]
theorem x_count7 (hW : dW N Q P) (h : dC N Q P s) : f_X11_count 7 s = some (.inl (dCt (fun k => decide (P 1 k = -1)) (N 6))) := by
  have hN := hW.1
  have hB := dWN_b hN
  rw [fe_X11_count]; unfold fb_X11_count
  simp +decide (disch := omega) only [dc_open hN h, dcN h, dc3 h, dc5 h, dc7 h, dc9 h, dc11 h, dc13 h, dc15 h, dc17 h, dc19 h, dc22 h, dc24 h, dc26 h, dc28 h, dc30 h, d_10, d_01, d_00, d_11, true_or, or_true, or_self, if_true, if_false, reduceIte, Option.elim_none, Option.elim_some, Option.bind_some, d_up_up, d_a0, d_a1, d_a7, d_a13, d_a21, d_a29, d_a35, d_a40, d_a75, d_a80, d_a115, d_a120, d_a155, d_a160, d_a195, d_r1, d_nI0, d_ix, d_cl, d_le, d_lt, d_eq, d_at, d_pt, if_false, if_true, Int32.add_zero, Option.bind_some, reduceIte, Nat.zero_add, Bool.and_eq_true, decide_eq_true_eq, decide_true, decide_false, Bool.and_true, Bool.true_and, Bool.false_and, Bool.and_false, Bool.true_eq_false, Bool.false_eq_true, false_and, and_false, true_and, and_true, d_n0, d_lef, false_or, or_false, or_self, false_and, not_true_eq_false, not_false_eq_true, ne_eq, not_true, not_false_iff, aB_0, aB_1]
theorem x_count8 (hW : dW N Q P) (h : dC N Q P s) : f_X11_count 8 s = some (.inl (dCt (fun k => decide (P 3 k = 1)) (N 6))) := by
  have hN := hW.1
  have hB := dWN_b hN
  rw [fe_X11_count]; unfold fb_X11_count
  simp +decide (disch := omega) only [dc_super hN h, dcN h, dc3 h, dc5 h, dc7 h, dc9 h, dc11 h, dc13 h, dc15 h, dc17 h, dc19 h, dc22 h, dc24 h, dc26 h, dc28 h, dc30 h, d_10, d_01, d_00, d_11, true_or, or_true, or_self, if_true, if_false, reduceIte, Option.elim_none, Option.elim_some, Option.bind_some, d_up_up, d_a0, d_a1, d_a7, d_a13, d_a21, d_a29, d_a35, d_a40, d_a75, d_a80, d_a115, d_a120, d_a155, d_a160, d_a195, d_r1, d_nI0, d_ix, d_cl, d_le, d_lt, d_eq, d_at, d_pt, if_false, if_true, Int32.add_zero, Option.bind_some, reduceIte, Nat.zero_add, Bool.and_eq_true, decide_eq_true_eq, decide_true, decide_false, Bool.and_true, Bool.true_and, Bool.false_and, Bool.and_false, Bool.true_eq_false, Bool.false_eq_true, false_and, and_false, true_and, and_true, d_n0, d_lef, false_or, or_false, or_self, false_and, not_true_eq_false, not_false_eq_true, ne_eq, not_true, not_false_iff, aB_0, aB_1]
theorem x_count9 (hW : dW N Q P) (h : dC N Q P s) : f_X11_count 9 s = some (.inl (aDiffs N Q P)) := by
  have hN := hW.1
  have hB := dWN_b hN
  rw [fe_X11_count]; unfold fb_X11_count
  simp +decide (disch := omega) only [dc_differing hN h, dcN h, dc3 h, dc5 h, dc7 h, dc9 h, dc11 h, dc13 h, dc15 h, dc17 h, dc19 h, dc22 h, dc24 h, dc26 h, dc28 h, dc30 h, d_10, d_01, d_00, d_11, true_or, or_true, or_self, if_true, if_false, reduceIte, Option.elim_none, Option.elim_some, Option.bind_some, d_up_up, d_a0, d_a1, d_a7, d_a13, d_a21, d_a29, d_a35, d_a40, d_a75, d_a80, d_a115, d_a120, d_a155, d_a160, d_a195, d_r1, d_nI0, d_ix, d_cl, d_le, d_lt, d_eq, d_at, d_pt, if_false, if_true, Int32.add_zero, Option.bind_some, reduceIte, Nat.zero_add, Bool.and_eq_true, decide_eq_true_eq, decide_true, decide_false, Bool.and_true, Bool.true_and, Bool.false_and, Bool.and_false, Bool.true_eq_false, Bool.false_eq_true, false_and, and_false, true_and, and_true, d_n0, d_lef, false_or, or_false, or_self, false_and, not_true_eq_false, not_false_eq_true, ne_eq, not_true, not_false_iff, aB_0, aB_1]
theorem x_subject0 (hW : dW N Q P) (h : dC N Q P s) {i : Nat} (hi : i < N 2) : f_X11_subject (nI i) 0 s = some (.inl (Q 1 i)) := by
  have hN := hW.1
  have hB := dWN_b hN
  rw [fe_X11_subject]; unfold fb_X11_subject
  simp +decide (disch := omega) only [hi, dcN h, dc3 h, dc5 h, dc7 h, dc9 h, dc11 h, dc13 h, dc15 h, dc17 h, dc19 h, dc22 h, dc24 h, dc26 h, dc28 h, dc30 h, d_10, d_01, d_00, d_11, true_or, or_true, or_self, if_true, if_false, reduceIte, Option.elim_none, Option.elim_some, Option.bind_some, d_up_up, d_a0, d_a1, d_a7, d_a13, d_a21, d_a29, d_a35, d_a40, d_a75, d_a80, d_a115, d_a120, d_a155, d_a160, d_a195, d_r1, d_nI0, d_ix, d_cl, d_le, d_lt, d_eq, d_at, d_pt, if_false, if_true, Int32.add_zero, Option.bind_some, reduceIte, Nat.zero_add, Bool.and_eq_true, decide_eq_true_eq, decide_true, decide_false, Bool.and_true, Bool.true_and, Bool.false_and, Bool.and_false, Bool.true_eq_false, Bool.false_eq_true, false_and, and_false, true_and, and_true, d_n0, d_lef, false_or, or_false, or_self, false_and, not_true_eq_false, not_false_eq_true, ne_eq, not_true, not_false_iff, aB_0, aB_1]
theorem x_subject1 (hW : dW N Q P) (h : dC N Q P s) {i : Nat} (hi : i < N 2) : f_X11_subject (nI i) 1 s = some (.inl (dMs (fun k => dHb (Q 3 k) (nI i)) (N 3))) := by
  have hN := hW.1
  have hB := dWN_b hN
  rw [fe_X11_subject]; unfold fb_X11_subject
  simp +decide (disch := omega) only [hi, dc_qualifiedFor hN h (show i < 31 by omega), dcN h, dc3 h, dc5 h, dc7 h, dc9 h, dc11 h, dc13 h, dc15 h, dc17 h, dc19 h, dc22 h, dc24 h, dc26 h, dc28 h, dc30 h, d_10, d_01, d_00, d_11, true_or, or_true, or_self, if_true, if_false, reduceIte, Option.elim_none, Option.elim_some, Option.bind_some, d_up_up, d_a0, d_a1, d_a7, d_a13, d_a21, d_a29, d_a35, d_a40, d_a75, d_a80, d_a115, d_a120, d_a155, d_a160, d_a195, d_r1, d_nI0, d_ix, d_cl, d_le, d_lt, d_eq, d_at, d_pt, if_false, if_true, Int32.add_zero, Option.bind_some, reduceIte, Nat.zero_add, Bool.and_eq_true, decide_eq_true_eq, decide_true, decide_false, Bool.and_true, Bool.true_and, Bool.false_and, Bool.and_false, Bool.true_eq_false, Bool.false_eq_true, false_and, and_false, true_and, and_true, d_n0, d_lef, false_or, or_false, or_self, false_and, not_true_eq_false, not_false_eq_true, ne_eq, not_true, not_false_iff, aB_0, aB_1]
theorem x_ofClass (hW : dW N Q P) (h : dC N Q P s) {x c : Nat} (hx : x < dSl N) (hc : c < N 5) : f_X11_lessonOfClass (nI x) (nI c) s = some (.inl (aAtC N Q P (nI x) (nI c))) := by
  have hN := hW.1
  rw [fe_X11_lessonOfClass]; unfold fb_X11_lessonOfClass
  simp only [cS_y hN h hx, cK_y hN h hc, dc_lessonAt_10 hN h, d_10, d_01, d_00, d_11, true_or, or_true, or_self, if_true, if_false, reduceIte, Option.elim_none, Option.elim_some, Option.bind_some, d_up_up]
theorem x_ofTeacher (hW : dW N Q P) (h : dC N Q P s) {x t : Nat} (hx : x < dSl N) (ht : t < N 3) : f_X11_lessonOfTeacher (nI x) (nI t) s = some (.inl (aAt N P 1 (nI x) (nI t))) := by
  have hN := hW.1
  rw [fe_X11_lessonOfTeacher]; unfold fb_X11_lessonOfTeacher
  simp only [cS_y hN h hx, cT_y hN h ht, dc_lessonAt_23 hN h, d_10, d_01, d_00, d_11, true_or, or_true, or_self, if_true, if_false, reduceIte, Option.elim_none, Option.elim_some, Option.bind_some, d_up_up]
theorem x_inRoom (hW : dW N Q P) (h : dC N Q P s) {x r : Nat} (hx : x < dSl N) (hr : r < N 4) : f_X11_lessonInRoom (nI x) (nI r) s = some (.inl (aAt N P 2 (nI x) (nI r))) := by
  have hN := hW.1
  rw [fe_X11_lessonInRoom]; unfold fb_X11_lessonInRoom
  simp only [cS_y hN h hx, cR_y hN h hr, dc_lessonAt_25 hN h, d_10, d_01, d_00, d_11, true_or, or_true, or_self, if_true, if_false, reduceIte, Option.elim_none, Option.elim_some, Option.bind_some, d_up_up]
theorem x_whyNotCover (hW : dW N Q P) (h : dC N Q P s) {i j : Nat} (hi : i < N 6) (hj : j < N 3) : f_X11_whyNotCover (nI i) (nI j) s = some (.inl (aCover N Q P i j)) := by
  have hN := hW.1
  rw [fe_X11_whyNotCover]; unfold fb_X11_whyNotCover
  simp only [cL_y hN h hi, cT_y hN h hj, dc_againstCover hW h hi hj, d_10, d_01, d_00, d_11, true_or, or_true, or_self, if_true, if_false, reduceIte, Option.elim_none, Option.elim_some, Option.bind_some, d_up_up]
theorem x_whyNotSupervise (hW : dW N Q P) (h : dC N Q P s) {i j : Nat} (hi : i < N 6) (hj : j < N 3) : f_X11_whyNotSupervise (nI i) (nI j) s = some (.inl (aSuper N P i j)) := by
  have hN := hW.1
  rw [fe_X11_whyNotSupervise]; unfold fb_X11_whyNotSupervise
  simp only [cL_y hN h hi, cT_y hN h hj, dc_againstSupervision hW h hi hj, d_10, d_01, d_00, d_11, true_or, or_true, or_self, if_true, if_false, reduceIte, Option.elim_none, Option.elim_some, Option.bind_some, d_up_up]
theorem x_whyNotExchange (hW : dW N Q P) (h : dC N Q P s) {i j : Nat} (hi : i < N 6) (hj : j < N 6) : f_X11_whyNotExchange (nI i) (nI j) s = some (.inl (aExch N Q P i j)) := by
  have hN := hW.1
  rw [fe_X11_whyNotExchange]; unfold fb_X11_whyNotExchange
  simp only [cL_y hN h hi, cL_y hN h hj, dc_againstExchange hW h hi hj, d_10, d_01, d_00, d_11, true_or, or_true, or_self, if_true, if_false, reduceIte, Option.elim_none, Option.elim_some, Option.bind_some, d_up_up]
theorem x_whyNotRoom (hW : dW N Q P) (h : dC N Q P s) {i j : Nat} (hi : i < N 6) (hj : j < N 4) : f_X11_whyNotRoom (nI i) (nI j) s = some (.inl (aRoom N Q P i j)) := by
  have hN := hW.1
  rw [fe_X11_whyNotRoom]; unfold fb_X11_whyNotRoom
  simp only [cL_y hN h hi, cR_y hN h hj, dc_againstRoom hW h hi hj, d_10, d_01, d_00, d_11, true_or, or_true, or_self, if_true, if_false, reduceIte, Option.elim_none, Option.elim_some, Option.bind_some, d_up_up]
theorem x_candidates (hW : dW N Q P) (h : dC N Q P s) {i : Nat} (hi : i < N 6) : f_X11_candidates (nI i) s = some (.inl (dMs (fun k => decide (aCover N Q P i k = 0)) (N 3))) := by
  have hN := hW.1
  have hB := dWN_b hN
  rw [fe_X11_candidates]; unfold fb_X11_candidates
  simp only [cL_y hN h hi, d_10, d_01, d_00, d_11, true_or, or_true, or_self, if_true, if_false, reduceIte, Option.elim_none, Option.elim_some, Option.bind_some, d_up_up]
  refine (d_fold0 (F := fun n k a => f_X11_candidates_h9 n (nI i) a (nI k) s) (f := dMf (fun k => decide (aCover N Q P i k = 0))) (g := fun a => some (.inl a)) (N := N 3) (by omega) (fun n k a hk => ?_) (fun n a => ?_) 0)
  · simp (disch := omega) only [f_X11_candidates_h9, dcN h, dc3 h, dc5 h, dc7 h, dc9 h, dc11 h, dc13 h, dc15 h, dc17 h, dc19 h, dc22 h, dc24 h, dc26 h, dc28 h, dc30 h, dc_againstCover hW h hi hk, d_10, d_01, d_00, d_11, true_or, or_true, or_self, if_true, if_false, reduceIte, Option.elim_none, Option.elim_some, Option.bind_some, d_up_up, d_a0, d_a1, d_a7, d_a13, d_a21, d_a29, d_a35, d_a40, d_a75, d_a80, d_a115, d_a120, d_a155, d_a160, d_a195, d_r1, d_nI0, d_ix, d_cl, d_le, d_lt, d_eq, d_at, d_pt, if_false, if_true, Int32.add_zero, Option.bind_some, reduceIte, Nat.zero_add, Bool.and_eq_true, decide_eq_true_eq, decide_true, decide_false, Bool.and_true, Bool.true_and, Bool.false_and, Bool.and_false, Bool.true_eq_false, Bool.false_eq_true, false_and, and_false, true_and, and_true, d_n0, d_lef, false_or, or_false, or_self, false_and, not_true_eq_false, not_false_eq_true, ne_eq, not_true, not_false_iff, aB_0, aB_1]
    by_cases c1 : aCover N Q P i k = 0 <;> simp [c1, dMf]
  · simp (disch := omega) only [f_X11_candidates_h9, dcN h, dc3 h, dc5 h, dc7 h, dc9 h, dc11 h, dc13 h, dc15 h, dc17 h, dc19 h, dc22 h, dc24 h, dc26 h, dc28 h, dc30 h, ]
    rw [if_pos (nI_le (Nat.le_refl _) (by omega))]
theorem x_slotsFor (hW : dW N Q P) (h : dC N Q P s) {i : Nat} (hi : i < N 6) : f_X11_slotsFor (nI i) s = some (.inl (dMs (fun k => decide (aMove N Q P i (nI k) = 0)) (dSl N))) := by
  have hN := hW.1
  have hB := dWN_b hN
  rw [fe_X11_slotsFor]; unfold fb_X11_slotsFor
  simp only [cL_y hN h hi, d_10, d_01, d_00, d_11, true_or, or_true, or_self, if_true, if_false, reduceIte, Option.elim_none, Option.elim_some, Option.bind_some, d_up_up]
  refine (d_fold0 (F := fun n k a => f_X11_slotsFor_h9 n (nI i) a (nI k) s) (f := dMf (fun k => decide (aMove N Q P i (nI k) = 0))) (g := fun a => some (.inl a)) (N := dSl N) (by omega) (fun n k a hk => ?_) (fun n a => ?_) 0)
  · simp (disch := omega) only [f_X11_slotsFor_h9, dcN h, dc3 h, dc5 h, dc7 h, dc9 h, dc11 h, dc13 h, dc15 h, dc17 h, dc19 h, dc22 h, dc24 h, dc26 h, dc28 h, dc30 h, dc_slots h, dc_againstMove hW h hi hk, d_10, d_01, d_00, d_11, true_or, or_true, or_self, if_true, if_false, reduceIte, Option.elim_none, Option.elim_some, Option.bind_some, d_up_up, d_a0, d_a1, d_a7, d_a13, d_a21, d_a29, d_a35, d_a40, d_a75, d_a80, d_a115, d_a120, d_a155, d_a160, d_a195, d_r1, d_nI0, d_ix, d_cl, d_le, d_lt, d_eq, d_at, d_pt, if_false, if_true, Int32.add_zero, Option.bind_some, reduceIte, Nat.zero_add, Bool.and_eq_true, decide_eq_true_eq, decide_true, decide_false, Bool.and_true, Bool.true_and, Bool.false_and, Bool.and_false, Bool.true_eq_false, Bool.false_eq_true, false_and, and_false, true_and, and_true, d_n0, d_lef, false_or, or_false, or_self, false_and, not_true_eq_false, not_false_eq_true, ne_eq, not_true, not_false_iff, aB_0, aB_1]
    by_cases c1 : aMove N Q P i (nI k) = 0 <;> simp [c1, dMf]
  · simp (disch := omega) only [f_X11_slotsFor_h9, dcN h, dc3 h, dc5 h, dc7 h, dc9 h, dc11 h, dc13 h, dc15 h, dc17 h, dc19 h, dc22 h, dc24 h, dc26 h, dc28 h, dc30 h, dc_slots h, ]
    rw [if_pos (nI_le (Nat.le_refl _) (by omega))]
theorem x_report (hW : dW N Q P) (h : dC N Q P s) {g : Nat} (hg : g < N 5) : ∃ s2, f_X11_writeReport (nI g) s = some (.inl (nI (wT N Q P (nI g) (dSl N)).length), s2) ∧ rF s s2 := by
  have hN := hW.1
  obtain ⟨s2, e2, o2, f2⟩ := c_write hW (nI g) h
  refine ⟨s2, ?_, f2⟩
  rw [fe_X11_writeReport]; unfold fb_X11_writeReport
  simp only [cK_y hN h hg, e2, o2.1, d_10, d_01, d_00, d_11, true_or, or_true, or_self, if_true, if_false, reduceIte, Option.elim_none, Option.elim_some, Option.bind_some, d_up_up]
theorem x_share (hW : dW N Q P) (h : dC N Q P s) : f_X11_taughtShare s = some (aShare N P) := dc_share hW h
theorem x_spread (hW : dW N Q P) (h : dC N Q P s) : f_X11_spread s = some (aSpread N Q P) := dc_spread hW.1 h
end E0
