section D9
variable {N : Nat → Nat} {Q P : Nat → Nat → Int32} {s : ga_M}
theorem dc_isAway (hN : dWN N) (h : dC N Q P s) {t j : Nat} (ht : t < N 3) (hj : j < 31) : v_X3_isAway (nI t) (nI j) s = aB (dHb (P 4 t) (nI j)) := by
  have hL : N 3 ≤ 8 := hN.2.2.2.1.2
  have e4 := h.2.2.2.2.2 t (by omega)
  rw [ve_X3_isAway]; unfold vb_X3_isAway
  simp (disch := omega) only [e4, d_a0, d_a1, d_a7, d_a13, d_a21, d_a29, d_a35, d_a40, d_a75, d_a80, d_a115, d_a120, d_a155, d_a160, d_a195, d_r1, d_nI0, d_ix, d_cl, d_le, d_lt, d_eq, d_at, d_pt, if_false, if_true, Int32.add_zero, Option.bind_some, reduceIte, Nat.zero_add, Bool.and_eq_true, decide_eq_true_eq, decide_true, decide_false, Bool.and_true, Bool.true_and, Bool.false_and, Bool.and_false, Bool.true_eq_false, Bool.false_eq_true, false_and, and_false, true_and, and_true]
  exact dc_hasBit hj
theorem dc_isAwayAt (hN : dWN N) (h : dC N Q P s) {t j : Nat} (ht : t < N 3) (hj : j < dSl N) : f_X3_isAwayAt (nI t) (nI j) s = some (aB (aAway N P t (nI j))) := by
  have h0 := hN.1
  obtain ⟨hd, hd2⟩ := d_day hN hj
  rw [fe_X3_isAwayAt]; unfold fb_X3_isAwayAt aAway
  rw [dc_dayOf hN h, Option.bind_some, hd, dc_isAway hN h ht (by omega)]
theorem dc_isQualified (hN : dWN N) (h : dC N Q P s) {t j : Nat} (ht : t < N 3) (hj : j < 31) : v_X7_isQualified (nI t) (nI j) s = aB (dHb (Q 3 t) (nI j)) := by
  have hL : N 3 ≤ 8 := hN.2.2.2.1.2
  have e3 := h.1.2.2.2.1 t ht
  rw [ve_X7_isQualified]; unfold vb_X7_isQualified
  rw [dc_hasTeacher hN h, decide_eq_true (show ∃ i, i < N 3 ∧ nI t = nI i from ⟨t, ht, rfl⟩)]
  simp (disch := omega) only [e3, d_a0, d_a1, d_a7, d_a13, d_a21, d_a29, d_a35, d_a40, d_a75, d_a80, d_a115, d_a120, d_a155, d_a160, d_a195, d_r1, d_nI0, d_ix, d_cl, d_le, d_lt, d_eq, d_at, d_pt, if_false, if_true, Int32.add_zero, Option.bind_some, reduceIte, Nat.zero_add, Bool.and_eq_true, decide_eq_true_eq, decide_true, decide_false, Bool.and_true, Bool.true_and, Bool.false_and, Bool.and_false, Bool.true_eq_false, Bool.false_eq_true, false_and, and_false, true_and, and_true]
  rw [dc_hasBit hj]
  cases dHb (Q 3 t) (nI j) <;> rfl
end D9
