section D8
variable {N : Nat → Nat} {Q P : Nat → Nat → Int32} {s : ga_M}
theorem dc_isOpen (hN : dWN N) (h : dC N Q P s) {k : Nat} (hk : k < N 6) : v_X3_isOpen (nI k) s = aB (decide (P 1 k = -1)) := by
  have hL : N 6 ≤ 40 := hN.2.2.2.2.2.2
  have e1 := h.2.2.1 k hk
  rw [ve_X3_isOpen]; unfold vb_X3_isOpen
  simp (disch := omega) only [e1, d_a0, d_a1, d_a7, d_a13, d_a21, d_a29, d_a35, d_a40, d_a75, d_a80, d_a115, d_a120, d_a155, d_a160, d_a195, d_r1, d_nI0, d_ix, d_cl, d_le, d_lt, d_eq, d_at, d_pt, if_false, if_true, Int32.add_zero, Option.bind_some, reduceIte, Nat.zero_add, Bool.and_eq_true, decide_eq_true_eq, decide_true, decide_false, Bool.and_true, Bool.true_and, Bool.false_and, Bool.and_false, Bool.true_eq_false, Bool.false_eq_true, false_and, and_false, true_and, and_true]
  by_cases c1 : P 1 k = -1 <;> simp [c1, aB]
theorem dc_isTaught (hN : dWN N) (h : dC N Q P s) {k : Nat} (hk : k < N 6) : v_X3_isTaught (nI k) s = aB (aTaught P k) := by
  have hL : N 6 ≤ 40 := hN.2.2.2.2.2.2
  have e1 := h.2.2.1 k hk
  have e3 := h.2.2.2.2.1 k hk
  rw [ve_X3_isTaught]; unfold vb_X3_isTaught
  simp (disch := omega) only [e1, e3, d_a0, d_a1, d_a7, d_a13, d_a21, d_a29, d_a35, d_a40, d_a75, d_a80, d_a115, d_a120, d_a155, d_a160, d_a195, d_r1, d_nI0, d_ix, d_cl, d_le, d_lt, d_eq, d_at, d_pt, if_false, if_true, Int32.add_zero, Option.bind_some, reduceIte, Nat.zero_add, Bool.and_eq_true, decide_eq_true_eq, decide_true, decide_false, Bool.and_true, Bool.true_and, Bool.false_and, Bool.and_false, Bool.true_eq_false, Bool.false_eq_true, false_and, and_false, true_and, and_true]
  by_cases c1 : P 1 k = -1 <;> by_cases c2 : P 3 k = 0 <;> simp [c1, c2, aB, aTaught]
theorem dc_isSupervised (hN : dWN N) (h : dC N Q P s) {k : Nat} (hk : k < N 6) : v_X3_isSupervised (nI k) s = aB (decide (P 3 k = 1)) := by
  have hL : N 6 ≤ 40 := hN.2.2.2.2.2.2
  have e3 := h.2.2.2.2.1 k hk
  rw [ve_X3_isSupervised]; unfold vb_X3_isSupervised
  simp (disch := omega) only [e3, d_a0, d_a1, d_a7, d_a13, d_a21, d_a29, d_a35, d_a40, d_a75, d_a80, d_a115, d_a120, d_a155, d_a160, d_a195, d_r1, d_nI0, d_ix, d_cl, d_le, d_lt, d_eq, d_at, d_pt, if_false, if_true, Int32.add_zero, Option.bind_some, reduceIte, Nat.zero_add, Bool.and_eq_true, decide_eq_true_eq, decide_true, decide_false, Bool.and_true, Bool.true_and, Bool.false_and, Bool.and_false, Bool.true_eq_false, Bool.false_eq_true, false_and, and_false, true_and, and_true]
  by_cases c2 : P 3 k = 1 <;> simp [c2, aB]
theorem dc_hasBit {m : Int32} {j : Nat} (hj : j < 31) : v_X11_hasBit m (nI j) s = aB (dHb m (nI j)) := by
  rw [ve_X11_hasBit]; unfold vb_X11_hasBit dHb
  rw [if_neg (nI_pos (by omega)), if_neg (show ¬ (31 : Int32) ≤ nI j from nI_ge (b := 31) hj (by omega))]
  by_cases c : (m >>> (nI j &&& 31)) &&& 1 = 1 <;> simp [c, aB]
theorem dc_dayOf (hN : dWN N) (h : dC N Q P s) (x : Int32) : f_X7_dayOf x s = some (aDay N x) := by
  have h1 : s 1 1 = nI (N 1) := h.1.1 1 (by decide)
  have hp := hN.2.1
  rw [fe_X7_dayOf]; unfold fb_X7_dayOf
  rw [h1]
  have c1 : ¬ nI (N 1) ≤ 0 := by
    intro hle
    have := (nI_leI (show N 1 < 2147483648 by omega) (show 0 < 2147483648 by omega)).mp hle
    omega
  have c2 : ¬ nI (N 1) = 0 := fun e => c1 (by rw [e]; exact Int32.le_refl 0)
  rw [if_neg c1, if_neg c2]; rfl
theorem d_day (hN : dWN N) {j : Nat} (hj : j < dSl N) : aDay N (nI j) = nI (j / N 1) ∧ j / N 1 < N 0 := by
  have hp := hN.2.1
  have h0 := hN.1
  have hj2 : j < N 0 * N 1 := hj
  have hb : N 0 * N 1 ≤ 5 * 6 := Nat.mul_le_mul h0.2 hp.2
  refine ⟨pk_div (by omega) (by omega) (by omega), (Nat.div_lt_iff_lt_mul (by omega)).mpr hj2⟩
end D8
