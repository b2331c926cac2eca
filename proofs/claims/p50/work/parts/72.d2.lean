section D2
/-! ===== what the class's reading methods answer ===== -/
variable {N : Nat → Nat} {Q P : Nat → Nat → Int32} {s : ga_M}
/-- a number that a school has -/
theorem d_has (n : Nat) (hn : n < 2147483648) (x : Int32) : (if x < 0 then (0 : Int32) else if nI n ≤ x then 0 else 1) = aB (decide (∃ j, j < n ∧ x = nI j)) := by
  rcases d_in x n hn with ⟨j, h1, rfl⟩ | ⟨h1, h2⟩
  · rw [if_neg (nI_pos (by omega)), if_neg (nI_ge h1 hn), decide_eq_true (show ∃ i, i < n ∧ nI j = nI i from ⟨j, h1, rfl⟩)]; rfl
  · rw [decide_eq_false (fun ⟨j, h3, h4⟩ => h2 j h3 h4)]
    rcases h1 with h1 | h1
    · rw [if_pos h1]; rfl
    · split
      · rfl
      · rfl
theorem dWN_lt {N : Nat → Nat} (h : dWN N) : N 0 < 2147483648 ∧ N 1 < 2147483648 ∧ N 2 < 2147483648 ∧ N 3 < 2147483648 ∧ N 4 < 2147483648 ∧ N 5 < 2147483648 ∧ N 6 < 2147483648 := by
  obtain ⟨h0, h1, h2, h3, h4, h5, h6⟩ := h
  omega
theorem dc_hasTeacher (hN : dWN N) (h : dC N Q P s) (x : Int32) : v_X7_hasTeacher x s = aB (decide (∃ j, j < N 3 ∧ x = nI j)) := by
  rw [ve_X7_hasTeacher]; unfold vb_X7_hasTeacher
  rw [show s 1 3 = nI (N 3) from h.1.1 3 (by decide)]
  exact d_has _ (dWN_lt hN).2.2.2.1 x
theorem dc_hasDay (hN : dWN N) (h : dC N Q P s) (x : Int32) : v_X7_hasDay x s = aB (decide (∃ j, j < N 0 ∧ x = nI j)) := by
  rw [ve_X7_hasDay]; unfold vb_X7_hasDay
  rw [show s 1 0 = nI (N 0) from h.1.1 0 (by decide)]
  exact d_has _ (dWN_lt hN).1 x
theorem dc_hasLesson (hN : dWN N) (h : dC N Q P s) (x : Int32) : v_X7_hasLesson x s = aB (decide (∃ j, j < N 6 ∧ x = nI j)) := by
  rw [ve_X7_hasLesson]; unfold vb_X7_hasLesson
  rw [show s 1 6 = nI (N 6) from h.1.1 6 (by decide)]
  exact d_has _ (dWN_lt hN).2.2.2.2.2.2 x
theorem dc_hasRoom (hN : dWN N) (h : dC N Q P s) (x : Int32) : v_X7_hasRoom x s = aB (decide (∃ j, j < N 4 ∧ x = nI j)) := by
  rw [ve_X7_hasRoom]; unfold vb_X7_hasRoom
  rw [show s 1 4 = nI (N 4) from h.1.1 4 (by decide)]
  exact d_has _ (dWN_lt hN).2.2.2.2.1 x
theorem dc_lessonAt_23 (hN : dWN N) (h : dC N Q P s) (x v : Int32) : f_X3_lessonAt_23 x v s = some (aAt N P 1 x v) := by
  have hL : N 6 ≤ 40 := hN.2.2.2.2.2.2
  have h6 : s 1 6 = nI (N 6) := h.1.1 6 (by decide)
  rw [fe_X3_lessonAt_23]
  refine d_find0 (F := fun n k => f_X3_lessonAt_23_h3 n x v (nI k) s) (N := N 6) (by omega) (fun n k hk => ?_) (fun n => ?_)
  · have e1 := h.2.1 k hk
    have e2 := h.2.2.1 k hk
    simp (disch := omega) only [f_X3_lessonAt_23_h3, h6, e1, e2, d_a0, d_a1, d_a7, d_a13, d_a21, d_a29, d_a35, d_a40, d_a75, d_a80, d_a115, d_a120, d_a155, d_a160, d_a195, d_r1, d_nI0, d_ix, d_cl, d_le, d_lt, d_eq, d_at, d_pt, if_false, if_true, Int32.add_zero, Option.bind_some, reduceIte, Nat.zero_add, Bool.and_eq_true, decide_eq_true_eq, decide_true, decide_false, Bool.and_true, Bool.true_and, Bool.false_and, Bool.and_false, Bool.true_eq_false, Bool.false_eq_true, false_and, and_false, true_and, and_true]
    have c0 : ¬ N 6 ≤ k := by omega
    by_cases c1 : P 0 k = x <;> by_cases c2 : P 1 k = v <;> simp only [c0, c1, c2, d_a0, d_a1, d_a7, d_a13, d_a21, d_a29, d_a35, d_a40, d_a75, d_a80, d_a115, d_a120, d_a155, d_a160, d_a195, d_r1, d_nI0, d_ix, d_cl, d_le, d_lt, d_eq, d_at, d_pt, if_false, if_true, Int32.add_zero, Option.bind_some, reduceIte, Nat.zero_add, Bool.and_eq_true, decide_eq_true_eq, decide_true, decide_false, Bool.and_true, Bool.true_and, Bool.false_and, Bool.and_false, Bool.true_eq_false, Bool.false_eq_true, false_and, and_false, true_and, and_true] <;> simp
  · simp only [f_X3_lessonAt_23_h3, h6]
    rw [if_pos (nI_le (Nat.le_refl _) (by omega))]
theorem dc_lessonAt_25 (hN : dWN N) (h : dC N Q P s) (x v : Int32) : f_X3_lessonAt_25 x v s = some (aAt N P 2 x v) := by
  have hL : N 6 ≤ 40 := hN.2.2.2.2.2.2
  have h6 : s 1 6 = nI (N 6) := h.1.1 6 (by decide)
  rw [fe_X3_lessonAt_25]
  refine d_find0 (F := fun n k => f_X3_lessonAt_25_h3 n x v (nI k) s) (N := N 6) (by omega) (fun n k hk => ?_) (fun n => ?_)
  · have e1 := h.2.1 k hk
    have e2 := h.2.2.2.1 k hk
    simp (disch := omega) only [f_X3_lessonAt_25_h3, h6, e1, e2, d_a0, d_a1, d_a7, d_a13, d_a21, d_a29, d_a35, d_a40, d_a75, d_a80, d_a115, d_a120, d_a155, d_a160, d_a195, d_r1, d_nI0, d_ix, d_cl, d_le, d_lt, d_eq, d_at, d_pt, if_false, if_true, Int32.add_zero, Option.bind_some, reduceIte, Nat.zero_add, Bool.and_eq_true, decide_eq_true_eq, decide_true, decide_false, Bool.and_true, Bool.true_and, Bool.false_and, Bool.and_false, Bool.true_eq_false, Bool.false_eq_true, false_and, and_false, true_and, and_true]
    have c0 : ¬ N 6 ≤ k := by omega
    by_cases c1 : P 0 k = x <;> by_cases c2 : P 2 k = v <;> simp only [c0, c1, c2, d_a0, d_a1, d_a7, d_a13, d_a21, d_a29, d_a35, d_a40, d_a75, d_a80, d_a115, d_a120, d_a155, d_a160, d_a195, d_r1, d_nI0, d_ix, d_cl, d_le, d_lt, d_eq, d_at, d_pt, if_false, if_true, Int32.add_zero, Option.bind_some, reduceIte, Nat.zero_add, Bool.and_eq_true, decide_eq_true_eq, decide_true, decide_false, Bool.and_true, Bool.true_and, Bool.false_and, Bool.and_false, Bool.true_eq_false, Bool.false_eq_true, false_and, and_false, true_and, and_true] <;> simp
  · simp only [f_X3_lessonAt_25_h3, h6]
    rw [if_pos (nI_le (Nat.le_refl _) (by omega))]
theorem dc_lessonAt_10 (hN : dWN N) (h : dC N Q P s) (x v : Int32) : f_X3_lessonAt_10 x v s = some (aAtC N Q P x v) := by
  have hL : N 6 ≤ 40 := hN.2.2.2.2.2.2
  have h6 : s 1 6 = nI (N 6) := h.1.1 6 (by decide)
  rw [fe_X3_lessonAt_10]
  refine d_find0 (F := fun n k => f_X3_lessonAt_10_h3 n x v (nI k) s) (N := N 6) (by omega) (fun n k hk => ?_) (fun n => ?_)
  · have e1 := h.2.1 k hk
    have e2 := h.1.2.2.2.2.2.1 k hk
    simp (disch := omega) only [f_X3_lessonAt_10_h3, h6, e1, e2, d_a0, d_a1, d_a7, d_a13, d_a21, d_a29, d_a35, d_a40, d_a75, d_a80, d_a115, d_a120, d_a155, d_a160, d_a195, d_r1, d_nI0, d_ix, d_cl, d_le, d_lt, d_eq, d_at, d_pt, if_false, if_true, Int32.add_zero, Option.bind_some, reduceIte, Nat.zero_add, Bool.and_eq_true, decide_eq_true_eq, decide_true, decide_false, Bool.and_true, Bool.true_and, Bool.false_and, Bool.and_false, Bool.true_eq_false, Bool.false_eq_true, false_and, and_false, true_and, and_true]
    have c0 : ¬ N 6 ≤ k := by omega
    by_cases c1 : P 0 k = x <;> by_cases c2 : Q 5 k = v <;> simp only [c0, c1, c2, d_a0, d_a1, d_a7, d_a13, d_a21, d_a29, d_a35, d_a40, d_a75, d_a80, d_a115, d_a120, d_a155, d_a160, d_a195, d_r1, d_nI0, d_ix, d_cl, d_le, d_lt, d_eq, d_at, d_pt, if_false, if_true, Int32.add_zero, Option.bind_some, reduceIte, Nat.zero_add, Bool.and_eq_true, decide_eq_true_eq, decide_true, decide_false, Bool.and_true, Bool.true_and, Bool.false_and, Bool.and_false, Bool.true_eq_false, Bool.false_eq_true, false_and, and_false, true_and, and_true] <;> simp
  · simp only [f_X3_lessonAt_10_h3, h6]
    rw [if_pos (nI_le (Nat.le_refl _) (by omega))]
end D2
