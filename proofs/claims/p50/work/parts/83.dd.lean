section D13
variable {N : Nat → Nat} {Q P : Nat → Nat → Int32} {s : ga_M}
theorem d_lef {a b : Nat} (h : b < a) : (a ≤ b) = False := eq_false (by omega)
theorem aB_1 {b : Bool} : (aB b = 1) = (b = true) := by cases b <;> simp [aB]
theorem dcN (h : dC N Q P s) {k : Nat} (hk : k < 7) : s 1 k = nI (N k) := h.1.1 k hk
theorem dc3 (h : dC N Q P s) {k : Nat} (hk : k < N 2) : s 3 k = Q 1 k := h.1.2.1 k hk
theorem dc5 (h : dC N Q P s) {k : Nat} (hk : k < N 3) : s 5 k = Q 2 k := h.1.2.2.1 k hk
theorem dc7 (h : dC N Q P s) {k : Nat} (hk : k < N 3) : s 7 k = Q 3 k := h.1.2.2.2.1 k hk
theorem dc9 (h : dC N Q P s) {k : Nat} (hk : k < N 4) : s 9 k = Q 4 k := h.1.2.2.2.2.1 k hk
theorem dc11 (h : dC N Q P s) {k : Nat} (hk : k < N 6) : s 11 k = Q 5 k := h.1.2.2.2.2.2.1 k hk
theorem dc13 (h : dC N Q P s) {k : Nat} (hk : k < N 6) : s 13 k = Q 6 k := h.1.2.2.2.2.2.2.1 k hk
theorem dc15 (h : dC N Q P s) {k : Nat} (hk : k < N 6) : s 15 k = Q 7 k := h.1.2.2.2.2.2.2.2.1 k hk
theorem dc17 (h : dC N Q P s) {k : Nat} (hk : k < N 6) : s 17 k = Q 8 k := h.1.2.2.2.2.2.2.2.2.1 k hk
theorem dc19 (h : dC N Q P s) {k : Nat} (hk : k < N 6) : s 19 k = Q 9 k := h.1.2.2.2.2.2.2.2.2.2 k hk
theorem dc22 (h : dC N Q P s) {k : Nat} (hk : k < N 6) : s 22 k = P 0 k := h.2.1 k hk
theorem dc24 (h : dC N Q P s) {k : Nat} (hk : k < N 6) : s 24 k = P 1 k := h.2.2.1 k hk
theorem dc26 (h : dC N Q P s) {k : Nat} (hk : k < N 6) : s 26 k = P 2 k := h.2.2.2.1 k hk
theorem dc28 (h : dC N Q P s) {k : Nat} (hk : k < N 6) : s 28 k = P 3 k := h.2.2.2.2.1 k hk
theorem dc30 (h : dC N Q P s) {k : Nat} (hk : k < 8) : s 30 k = P 4 k := h.2.2.2.2.2 k hk
theorem dmN (h : dM N Q P s) {k : Nat} (hk : k < 7) : s 73 k = nI (N k) := h.1.1 k hk
theorem dm7 (h : dM N Q P s) {k : Nat} (hk : k < N 2) : s 73 (7 + k) = Q 1 k := h.1.2.1 k hk
theorem dm13 (h : dM N Q P s) {k : Nat} (hk : k < N 3) : s 73 (13 + k) = Q 2 k := h.1.2.2.1 k hk
theorem dm21 (h : dM N Q P s) {k : Nat} (hk : k < N 3) : s 73 (21 + k) = Q 3 k := h.1.2.2.2.1 k hk
theorem dm29 (h : dM N Q P s) {k : Nat} (hk : k < N 4) : s 73 (29 + k) = Q 4 k := h.1.2.2.2.2.1 k hk
theorem dm35 (h : dM N Q P s) {k : Nat} (hk : k < N 6) : s 73 (35 + k) = Q 5 k := h.1.2.2.2.2.2.1 k hk
theorem dm75 (h : dM N Q P s) {k : Nat} (hk : k < N 6) : s 73 (75 + k) = Q 6 k := h.1.2.2.2.2.2.2.1 k hk
theorem dm115 (h : dM N Q P s) {k : Nat} (hk : k < N 6) : s 73 (115 + k) = Q 7 k := h.1.2.2.2.2.2.2.2.1 k hk
theorem dm155 (h : dM N Q P s) {k : Nat} (hk : k < N 6) : s 73 (155 + k) = Q 8 k := h.1.2.2.2.2.2.2.2.2.1 k hk
theorem dm195 (h : dM N Q P s) {k : Nat} (hk : k < N 6) : s 73 (195 + k) = Q 9 k := h.1.2.2.2.2.2.2.2.2.2 k hk
theorem dm0 (h : dM N Q P s) {k : Nat} (hk : k < N 6) : s 75 k = P 0 k := h.2.1 k hk
theorem dm40 (h : dM N Q P s) {k : Nat} (hk : k < N 6) : s 75 (40 + k) = P 1 k := h.2.2.1 k hk
theorem dm80 (h : dM N Q P s) {k : Nat} (hk : k < N 6) : s 75 (80 + k) = P 2 k := h.2.2.2.1 k hk
theorem dm120 (h : dM N Q P s) {k : Nat} (hk : k < N 6) : s 75 (120 + k) = P 3 k := h.2.2.2.2.1 k hk
theorem dm160 (h : dM N Q P s) {k : Nat} (hk : k < 8) : s 75 (160 + k) = P 4 k := h.2.2.2.2.2 k hk
theorem dWN_b {N : Nat → Nat} (h : dWN N) : (1 ≤ N 0 ∧ N 0 ≤ 5) ∧ (1 ≤ N 1 ∧ N 1 ≤ 6) ∧ (1 ≤ N 2 ∧ N 2 ≤ 6) ∧ (1 ≤ N 3 ∧ N 3 ≤ 8) ∧ (1 ≤ N 4 ∧ N 4 ≤ 6) ∧ (1 ≤ N 5 ∧ N 5 ≤ 6) ∧ N 6 ≤ 40 ∧ dSl N ≤ 30 := by
  obtain ⟨h0, h1, h2, h3, h4, h5, h6⟩ := h
  have : N 0 * N 1 ≤ 5 * 6 := Nat.mul_le_mul h0.2 h1.2
  exact ⟨h0, h1, h2, h3, h4, h5, h6, this⟩
theorem dc_isBusy (hN : dWN N) (h : dC N Q P s) (v x : Int32) : f_X4_isBusy v x s = some (aB (decide (aAt N P 1 x v ≠ -1))) := by
  rw [fe_X4_isBusy]; unfold fb_X4_isBusy
  rw [dc_lessonAt_23 hN h, Option.bind_some]
  by_cases c : aAt N P 1 x v = -1 <;> simp [c, aB]
theorem dc_againstCover (hW : dW N Q P) (h : dC N Q P s) {l t : Nat} (hl : l < N 6) (ht : t < N 3) : f_X4_againstCover (nI l) (nI t) s = some (aCover N Q P l t) := by
  have hN := hW.1
  have hB := dWN_b hN
  obtain ⟨x, hx, ex⟩ := hW.2.2.1 l hl
  obtain ⟨j, hj, ej⟩ := hW.2.1.1 l hl
  have hj2 : j < 31 := by omega
  rw [fe_X4_againstCover]; unfold fb_X4_againstCover aCover aQual
  simp (disch := omega) only [dcN h, dc3 h, dc5 h, dc7 h, dc9 h, dc11 h, dc13 h, dc15 h, dc17 h, dc19 h, dc22 h, dc24 h, dc26 h, dc28 h, dc30 h, ex, ej, dc_isTaught hN h hl, dc_isAwayAt hN h ht hx, dc_isQualified hN h ht hj2, dc_isBusy hN h, dc_loadOf hN h, d_a0, d_a1, d_a7, d_a13, d_a21, d_a29, d_a35, d_a40, d_a75, d_a80, d_a115, d_a120, d_a155, d_a160, d_a195, d_r1, d_nI0, d_ix, d_cl, d_le, d_lt, d_eq, d_at, d_pt, if_false, if_true, Int32.add_zero, Option.bind_some, reduceIte, Nat.zero_add, Bool.and_eq_true, decide_eq_true_eq, decide_true, decide_false, Bool.and_true, Bool.true_and, Bool.false_and, Bool.and_false, Bool.true_eq_false, Bool.false_eq_true, false_and, and_false, true_and, and_true, d_n0, d_lef, false_or, or_false, or_self, false_and, not_true_eq_false, not_false_eq_true, ne_eq, not_true, not_false_iff, aB_0, aB_1]
  generalize aTaught P l = b1
  generalize aAway N P t (nI x) = b2
  generalize dHb (Q 3 t) (nI j) = b3
  by_cases c4 : aAt N P 1 (nI x) (nI t) = -1 <;> by_cases c5 : aLoad N Q P (nI t) < Q 2 t <;> cases b1 <;> cases b2 <;> cases b3 <;> simp [c4, c5]
theorem dc_againstSupervision (hW : dW N Q P) (h : dC N Q P s) {l t : Nat} (hl : l < N 6) (ht : t < N 3) : f_X4_againstSupervision (nI l) (nI t) s = some (aSuper N P l t) := by
  have hN := hW.1
  have hB := dWN_b hN
  obtain ⟨x, hx, ex⟩ := hW.2.2.1 l hl
  rw [fe_X4_againstSupervision]; unfold fb_X4_againstSupervision aSuper
  simp (disch := omega) only [dcN h, dc3 h, dc5 h, dc7 h, dc9 h, dc11 h, dc13 h, dc15 h, dc17 h, dc19 h, dc22 h, dc24 h, dc26 h, dc28 h, dc30 h, ex, dc_isOpen hN h hl, dc_isAwayAt hN h ht hx, dc_dayOf hN h, dc_isBusy hN h, dc_dutiesOn hN h, d_a0, d_a1, d_a7, d_a13, d_a21, d_a29, d_a35, d_a40, d_a75, d_a80, d_a115, d_a120, d_a155, d_a160, d_a195, d_r1, d_nI0, d_ix, d_cl, d_le, d_lt, d_eq, d_at, d_pt, if_false, if_true, Int32.add_zero, Option.bind_some, reduceIte, Nat.zero_add, Bool.and_eq_true, decide_eq_true_eq, decide_true, decide_false, Bool.and_true, Bool.true_and, Bool.false_and, Bool.and_false, Bool.true_eq_false, Bool.false_eq_true, false_and, and_false, true_and, and_true, d_n0, d_lef, false_or, or_false, or_self, false_and, not_true_eq_false, not_false_eq_true, ne_eq, not_true, not_false_iff, aB_0, aB_1]
  generalize aAway N P t (nI x) = b2
  by_cases c1 : P 1 l = -1 <;> by_cases c4 : aAt N P 1 (nI x) (nI t) = -1 <;> by_cases c5 : aDutOn N P (nI t) (aDay N (nI x)) < 2 <;> cases b2 <;> simp [c1, c4, c5]
end D13
