section D20
variable {N : Nat → Nat} {Q P : Nat → Nat → Int32} {s : ga_M}
theorem dm_inY {n : Nat} (hn : n < 2147483648) {K : Int32} (hK : nI n - 1 = K) {x : Int32} (hx : ∃ j, j < n ∧ x = nI j) : v_X12_in x.toInt64 (0 : Int32).toInt64 K.toInt64 s = 1 := by
  rw [dm_in2 hn hK, decide_eq_true hx]; rfl
theorem dm_inN {n : Nat} (hn : n < 2147483648) {K : Int32} (hK : nI n - 1 = K) {x : Int32} (hx : ∀ j, j < n → x ≠ nI j) : v_X12_in x.toInt64 (0 : Int32).toInt64 K.toInt64 s = 0 := by
  rw [dm_in2 hn hK, decide_eq_false (fun ⟨j, h1, h2⟩ => hx j h1 h2)]; rfl
theorem dm_inL {n : Nat} (hn : n < 2147483648) {x : Int32} {j : Nat} (hj : j < n) : v_X12_in (nI j).toInt64 (0 : Int32).toInt64 (nI n - 1 : Int32).toInt64 s = 1 := by
  rw [dm_in hn, d_yes hj]; rfl
theorem dm_inM {n : Nat} (hn : n < 2147483648) {x : Int32} (hx : ∀ j, j < n → x ≠ nI j) : v_X12_in x.toInt64 (0 : Int32).toInt64 (nI n - 1 : Int32).toInt64 s = 0 := by
  rw [dm_in hn, d_noo hx]; rfl
theorem q_lesson (hW : dW N Q P) (a b : Int32) : dQc N Q P (f_X11_lesson a b) (f_X12_lesson a b) (dK 3 2) := by
  have hN := hW.1
  have hB := dWN_b hN
  rcases d_in a (N 6) (by omega) with ⟨i, hi, rfl⟩ | ⟨_, hno⟩
  · rcases d_what10 b with (e | e | e | e | e | e | e | e | e | e) | hn
    · refine Or.inl ⟨P 0 i, fun s h => ?_, fun s h => ?_⟩
      · rw [e, fe_X11_lesson]; unfold fb_X11_lesson
        simp +decide (disch := omega) only [cL_y hN h hi, dcN h, dc3 h, dc5 h, dc7 h, dc9 h, dc11 h, dc13 h, dc15 h, dc17 h, dc19 h, dc22 h, dc24 h, dc26 h, dc28 h, dc30 h, d_fails1, d_fails0, d_10, d_01, d_00, d_11, true_or, or_true, or_self, if_true, if_false, reduceIte, Option.elim_none, Option.elim_some, Option.bind_some, d_up_up, d_a0, d_a1, d_a7, d_a13, d_a21, d_a29, d_a35, d_a40, d_a75, d_a80, d_a115, d_a120, d_a155, d_a160, d_a195, d_r1, d_nI0, d_ix, d_cl, d_le, d_lt, d_eq, d_at, d_pt, if_false, if_true, Int32.add_zero, Option.bind_some, reduceIte, Nat.zero_add, Bool.and_eq_true, decide_eq_true_eq, decide_true, decide_false, Bool.and_true, Bool.true_and, Bool.false_and, Bool.and_false, Bool.true_eq_false, Bool.false_eq_true, false_and, and_false, true_and, and_true, d_n0, d_lef, false_or, or_false, or_self, false_and, not_true_eq_false, not_false_eq_true, ne_eq, not_true, not_false_iff, aB_0, aB_1]
      · have h0 := dM_726 h 0
        have hi2 : ∀ t : ga_M, v_X12_in b.toInt64 (0 : Int32).toInt64 (9 : Int32).toInt64 t = 1 := fun t => dm_inY (n := 10) (K := 9) (by omega) rfl ⟨0, by omega, e⟩
        rw [fe_X12_lesson]; unfold fb_X12_lesson
        simp only [mL_y hN h hi, hi2, d_fails1, d_fails0, d_10, d_01, d_00, d_11, true_or, or_true, or_self, if_true, if_false, reduceIte, Option.elim_none, Option.elim_some, Option.bind_some, d_up_up]
        generalize ga_up s 72 6 0 = u at h0 ⊢
        clear h
        have h := h0
        simp +decide (disch := omega) only [e, dmN h, dm7 h, dm13 h, dm21 h, dm29 h, dm35 h, dm75 h, dm115 h, dm155 h, dm195 h, dm0 h, dm40 h, dm80 h, dm120 h, dm160 h, d_fails1, d_fails0, d_10, d_01, d_00, d_11, true_or, or_true, or_self, if_true, if_false, reduceIte, Option.elim_none, Option.elim_some, Option.bind_some, d_up_up, d_a0, d_a1, d_a7, d_a13, d_a21, d_a29, d_a35, d_a40, d_a75, d_a80, d_a115, d_a120, d_a155, d_a160, d_a195, d_r1, d_nI0, d_ix, d_cl, d_le, d_lt, d_eq, d_at, d_pt, if_false, if_true, Int32.add_zero, Option.bind_some, reduceIte, Nat.zero_add, Bool.and_eq_true, decide_eq_true_eq, decide_true, decide_false, Bool.and_true, Bool.true_and, Bool.false_and, Bool.and_false, Bool.true_eq_false, Bool.false_eq_true, false_and, and_false, true_and, and_true, d_n0, d_lef, false_or, or_false, or_self, false_and, not_true_eq_false, not_false_eq_true, ne_eq, not_true, not_false_iff, aB_0, aB_1]
    · refine Or.inl ⟨Q 5 i, fun s h => ?_, fun s h => ?_⟩
      · rw [e, fe_X11_lesson]; unfold fb_X11_lesson
        simp +decide (disch := omega) only [cL_y hN h hi, dcN h, dc3 h, dc5 h, dc7 h, dc9 h, dc11 h, dc13 h, dc15 h, dc17 h, dc19 h, dc22 h, dc24 h, dc26 h, dc28 h, dc30 h, d_fails1, d_fails0, d_10, d_01, d_00, d_11, true_or, or_true, or_self, if_true, if_false, reduceIte, Option.elim_none, Option.elim_some, Option.bind_some, d_up_up, d_a0, d_a1, d_a7, d_a13, d_a21, d_a29, d_a35, d_a40, d_a75, d_a80, d_a115, d_a120, d_a155, d_a160, d_a195, d_r1, d_nI0, d_ix, d_cl, d_le, d_lt, d_eq, d_at, d_pt, if_false, if_true, Int32.add_zero, Option.bind_some, reduceIte, Nat.zero_add, Bool.and_eq_true, decide_eq_true_eq, decide_true, decide_false, Bool.and_true, Bool.true_and, Bool.false_and, Bool.and_false, Bool.true_eq_false, Bool.false_eq_true, false_and, and_false, true_and, and_true, d_n0, d_lef, false_or, or_false, or_self, false_and, not_true_eq_false, not_false_eq_true, ne_eq, not_true, not_false_iff, aB_0, aB_1]
      · have h0 := dM_726 h 0
        have hi2 : ∀ t : ga_M, v_X12_in b.toInt64 (0 : Int32).toInt64 (9 : Int32).toInt64 t = 1 := fun t => dm_inY (n := 10) (K := 9) (by omega) rfl ⟨1, by omega, e⟩
        rw [fe_X12_lesson]; unfold fb_X12_lesson
        simp only [mL_y hN h hi, hi2, d_fails1, d_fails0, d_10, d_01, d_00, d_11, true_or, or_true, or_self, if_true, if_false, reduceIte, Option.elim_none, Option.elim_some, Option.bind_some, d_up_up]
        generalize ga_up s 72 6 0 = u at h0 ⊢
        clear h
        have h := h0
        simp +decide (disch := omega) only [e, dmN h, dm7 h, dm13 h, dm21 h, dm29 h, dm35 h, dm75 h, dm115 h, dm155 h, dm195 h, dm0 h, dm40 h, dm80 h, dm120 h, dm160 h, d_fails1, d_fails0, d_10, d_01, d_00, d_11, true_or, or_true, or_self, if_true, if_false, reduceIte, Option.elim_none, Option.elim_some, Option.bind_some, d_up_up, d_a0, d_a1, d_a7, d_a13, d_a21, d_a29, d_a35, d_a40, d_a75, d_a80, d_a115, d_a120, d_a155, d_a160, d_a195, d_r1, d_nI0, d_ix, d_cl, d_le, d_lt, d_eq, d_at, d_pt, if_false, if_true, Int32.add_zero, Option.bind_some, reduceIte, Nat.zero_add, Bool.and_eq_true, decide_eq_true_eq, decide_true, decide_false, Bool.and_true, Bool.true_and, Bool.false_and, Bool.and_false, Bool.true_eq_false, Bool.false_eq_true, false_and, and_false, true_and, and_true, d_n0, d_lef, false_or, or_false, or_self, false_and, not_true_eq_false, not_false_eq_true, ne_eq, not_true, not_false_iff, aB_0, aB_1]
    · refine Or.inl ⟨Q 6 i, fun s h => ?_, fun s h => ?_⟩
      · rw [e, fe_X11_lesson]; unfold fb_X11_lesson
        simp +decide (disch := omega) only [cL_y hN h hi, dcN h, dc3 h, dc5 h, dc7 h, dc9 h, dc11 h, dc13 h, dc15 h, dc17 h, dc19 h, dc22 h, dc24 h, dc26 h, dc28 h, dc30 h, d_fails1, d_fails0, d_10, d_01, d_00, d_11, true_or, or_true, or_self, if_true, if_false, reduceIte, Option.elim_none, Option.elim_some, Option.bind_some, d_up_up, d_a0, d_a1, d_a7, d_a13, d_a21, d_a29, d_a35, d_a40, d_a75, d_a80, d_a115, d_a120, d_a155, d_a160, d_a195, d_r1, d_nI0, d_ix, d_cl, d_le, d_lt, d_eq, d_at, d_pt, if_false, if_true, Int32.add_zero, Option.bind_some, reduceIte, Nat.zero_add, Bool.and_eq_true, decide_eq_true_eq, decide_true, decide_false, Bool.and_true, Bool.true_and, Bool.false_and, Bool.and_false, Bool.true_eq_false, Bool.false_eq_true, false_and, and_false, true_and, and_true, d_n0, d_lef, false_or, or_false, or_self, false_and, not_true_eq_false, not_false_eq_true, ne_eq, not_true, not_false_iff, aB_0, aB_1]
      · have h0 := dM_726 h 0
        have hi2 : ∀ t : ga_M, v_X12_in b.toInt64 (0 : Int32).toInt64 (9 : Int32).toInt64 t = 1 := fun t => dm_inY (n := 10) (K := 9) (by omega) rfl ⟨2, by omega, e⟩
        rw [fe_X12_lesson]; unfold fb_X12_lesson
        simp only [mL_y hN h hi, hi2, d_fails1, d_fails0, d_10, d_01, d_00, d_11, true_or, or_true, or_self, if_true, if_false, reduceIte, Option.elim_none, Option.elim_some, Option.bind_some, d_up_up]
        generalize ga_up s 72 6 0 = u at h0 ⊢
        clear h
        have h := h0
        simp +decide (disch := omega) only [e, dmN h, dm7 h, dm13 h, dm21 h, dm29 h, dm35 h, dm75 h, dm115 h, dm155 h, dm195 h, dm0 h, dm40 h, dm80 h, dm120 h, dm160 h, d_fails1, d_fails0, d_10, d_01, d_00, d_11, true_or, or_true, or_self, if_true, if_false, reduceIte, Option.elim_none, Option.elim_some, Option.bind_some, d_up_up, d_a0, d_a1, d_a7, d_a13, d_a21, d_a29, d_a35, d_a40, d_a75, d_a80, d_a115, d_a120, d_a155, d_a160, d_a195, d_r1, d_nI0, d_ix, d_cl, d_le, d_lt, d_eq, d_at, d_pt, if_false, if_true, Int32.add_zero, Option.bind_some, reduceIte, Nat.zero_add, Bool.and_eq_true, decide_eq_true_eq, decide_true, decide_false, Bool.and_true, Bool.true_and, Bool.false_and, Bool.and_false, Bool.true_eq_false, Bool.false_eq_true, false_and, and_false, true_and, and_true, d_n0, d_lef, false_or, or_false, or_self, false_and, not_true_eq_false, not_false_eq_true, ne_eq, not_true, not_false_iff, aB_0, aB_1]
    · refine Or.inl ⟨P 1 i, fun s h => ?_, fun s h => ?_⟩
      · rw [e, fe_X11_lesson]; unfold fb_X11_lesson
        simp +decide (disch := omega) only [cL_y hN h hi, dcN h, dc3 h, dc5 h, dc7 h, dc9 h, dc11 h, dc13 h, dc15 h, dc17 h, dc19 h, dc22 h, dc24 h, dc26 h, dc28 h, dc30 h, d_fails1, d_fails0, d_10, d_01, d_00, d_11, true_or, or_true, or_self, if_true, if_false, reduceIte, Option.elim_none, Option.elim_some, Option.bind_some, d_up_up, d_a0, d_a1, d_a7, d_a13, d_a21, d_a29, d_a35, d_a40, d_a75, d_a80, d_a115, d_a120, d_a155, d_a160, d_a195, d_r1, d_nI0, d_ix, d_cl, d_le, d_lt, d_eq, d_at, d_pt, if_false, if_true, Int32.add_zero, Option.bind_some, reduceIte, Nat.zero_add, Bool.and_eq_true, decide_eq_true_eq, decide_true, decide_false, Bool.and_true, Bool.true_and, Bool.false_and, Bool.and_false, Bool.true_eq_false, Bool.false_eq_true, false_and, and_false, true_and, and_true, d_n0, d_lef, false_or, or_false, or_self, false_and, not_true_eq_false, not_false_eq_true, ne_eq, not_true, not_false_iff, aB_0, aB_1]
      · have h0 := dM_726 h 0
        have hi2 : ∀ t : ga_M, v_X12_in b.toInt64 (0 : Int32).toInt64 (9 : Int32).toInt64 t = 1 := fun t => dm_inY (n := 10) (K := 9) (by omega) rfl ⟨3, by omega, e⟩
        rw [fe_X12_lesson]; unfold fb_X12_lesson
        simp only [mL_y hN h hi, hi2, d_fails1, d_fails0, d_10, d_01, d_00, d_11, true_or, or_true, or_self, if_true, if_false, reduceIte, Option.elim_none, Option.elim_some, Option.bind_some, d_up_up]
        generalize ga_up s 72 6 0 = u at h0 ⊢
        clear h
        have h := h0
        simp +decide (disch := omega) only [e, dmN h, dm7 h, dm13 h, dm21 h, dm29 h, dm35 h, dm75 h, dm115 h, dm155 h, dm195 h, dm0 h, dm40 h, dm80 h, dm120 h, dm160 h, d_fails1, d_fails0, d_10, d_01, d_00, d_11, true_or, or_true, or_self, if_true, if_false, reduceIte, Option.elim_none, Option.elim_some, Option.bind_some, d_up_up, d_a0, d_a1, d_a7, d_a13, d_a21, d_a29, d_a35, d_a40, d_a75, d_a80, d_a115, d_a120, d_a155, d_a160, d_a195, d_r1, d_nI0, d_ix, d_cl, d_le, d_lt, d_eq, d_at, d_pt, if_false, if_true, Int32.add_zero, Option.bind_some, reduceIte, Nat.zero_add, Bool.and_eq_true, decide_eq_true_eq, decide_true, decide_false, Bool.and_true, Bool.true_and, Bool.false_and, Bool.and_false, Bool.true_eq_false, Bool.false_eq_true, false_and, and_false, true_and, and_true, d_n0, d_lef, false_or, or_false, or_self, false_and, not_true_eq_false, not_false_eq_true, ne_eq, not_true, not_false_iff, aB_0, aB_1]
    · refine Or.inl ⟨P 2 i, fun s h => ?_, fun s h => ?_⟩
      · rw [e, fe_X11_lesson]; unfold fb_X11_lesson
        simp +decide (disch := omega) only [cL_y hN h hi, dcN h, dc3 h, dc5 h, dc7 h, dc9 h, dc11 h, dc13 h, dc15 h, dc17 h, dc19 h, dc22 h, dc24 h, dc26 h, dc28 h, dc30 h, d_fails1, d_fails0, d_10, d_01, d_00, d_11, true_or, or_true, or_self, if_true, if_false, reduceIte, Option.elim_none, Option.elim_some, Option.bind_some, d_up_up, d_a0, d_a1, d_a7, d_a13, d_a21, d_a29, d_a35, d_a40, d_a75, d_a80, d_a115, d_a120, d_a155, d_a160, d_a195, d_r1, d_nI0, d_ix, d_cl, d_le, d_lt, d_eq, d_at, d_pt, if_false, if_true, Int32.add_zero, Option.bind_some, reduceIte, Nat.zero_add, Bool.and_eq_true, decide_eq_true_eq, decide_true, decide_false, Bool.and_true, Bool.true_and, Bool.false_and, Bool.and_false, Bool.true_eq_false, Bool.false_eq_true, false_and, and_false, true_and, and_true, d_n0, d_lef, false_or, or_false, or_self, false_and, not_true_eq_false, not_false_eq_true, ne_eq, not_true, not_false_iff, aB_0, aB_1]
      · have h0 := dM_726 h 0
        have hi2 : ∀ t : ga_M, v_X12_in b.toInt64 (0 : Int32).toInt64 (9 : Int32).toInt64 t = 1 := fun t => dm_inY (n := 10) (K := 9) (by omega) rfl ⟨4, by omega, e⟩
        rw [fe_X12_lesson]; unfold fb_X12_lesson
        simp only [mL_y hN h hi, hi2, d_fails1, d_fails0, d_10, d_01, d_00, d_11, true_or, or_true, or_self, if_true, if_false, reduceIte, Option.elim_none, Option.elim_some, Option.bind_some, d_up_up]
        generalize ga_up s 72 6 0 = u at h0 ⊢
        clear h
        have h := h0
        simp +decide (disch := omega) only [e, dmN h, dm7 h, dm13 h, dm21 h, dm29 h, dm35 h, dm75 h, dm115 h, dm155 h, dm195 h, dm0 h, dm40 h, dm80 h, dm120 h, dm160 h, d_fails1, d_fails0, d_10, d_01, d_00, d_11, true_or, or_true, or_self, if_true, if_false, reduceIte, Option.elim_none, Option.elim_some, Option.bind_some, d_up_up, d_a0, d_a1, d_a7, d_a13, d_a21, d_a29, d_a35, d_a40, d_a75, d_a80, d_a115, d_a120, d_a155, d_a160, d_a195, d_r1, d_nI0, d_ix, d_cl, d_le, d_lt, d_eq, d_at, d_pt, if_false, if_true, Int32.add_zero, Option.bind_some, reduceIte, Nat.zero_add, Bool.and_eq_true, decide_eq_true_eq, decide_true, decide_false, Bool.and_true, Bool.true_and, Bool.false_and, Bool.and_false, Bool.true_eq_false, Bool.false_eq_true, false_and, and_false, true_and, and_true, d_n0, d_lef, false_or, or_false, or_self, false_and, not_true_eq_false, not_false_eq_true, ne_eq, not_true, not_false_iff, aB_0, aB_1]
    · refine Or.inl ⟨P 3 i, fun s h => ?_, fun s h => ?_⟩
      · rw [e, fe_X11_lesson]; unfold fb_X11_lesson
        simp +decide (disch := omega) only [cL_y hN h hi, dc_isSupervised hN h hi, dcN h, dc3 h, dc5 h, dc7 h, dc9 h, dc11 h, dc13 h, dc15 h, dc17 h, dc19 h, dc22 h, dc24 h, dc26 h, dc28 h, dc30 h, d_fails1, d_fails0, d_10, d_01, d_00, d_11, true_or, or_true, or_self, if_true, if_false, reduceIte, Option.elim_none, Option.elim_some, Option.bind_some, d_up_up, d_a0, d_a1, d_a7, d_a13, d_a21, d_a29, d_a35, d_a40, d_a75, d_a80, d_a115, d_a120, d_a155, d_a160, d_a195, d_r1, d_nI0, d_ix, d_cl, d_le, d_lt, d_eq, d_at, d_pt, if_false, if_true, Int32.add_zero, Option.bind_some, reduceIte, Nat.zero_add, Bool.and_eq_true, decide_eq_true_eq, decide_true, decide_false, Bool.and_true, Bool.true_and, Bool.false_and, Bool.and_false, Bool.true_eq_false, Bool.false_eq_true, false_and, and_false, true_and, and_true, d_n0, d_lef, false_or, or_false, or_self, false_and, not_true_eq_false, not_false_eq_true, ne_eq, not_true, not_false_iff, aB_0, aB_1]
        rcases hW.2.2.2.2.2.1 i hi with c1 | ⟨c1, _⟩ <;> simp [c1]
      · have h0 := dM_726 h 0
        have hi2 : ∀ t : ga_M, v_X12_in b.toInt64 (0 : Int32).toInt64 (9 : Int32).toInt64 t = 1 := fun t => dm_inY (n := 10) (K := 9) (by omega) rfl ⟨5, by omega, e⟩
        rw [fe_X12_lesson]; unfold fb_X12_lesson
        simp only [mL_y hN h hi, hi2, d_fails1, d_fails0, d_10, d_01, d_00, d_11, true_or, or_true, or_self, if_true, if_false, reduceIte, Option.elim_none, Option.elim_some, Option.bind_some, d_up_up]
        generalize ga_up s 72 6 0 = u at h0 ⊢
        clear h
        have h := h0
        simp +decide (disch := omega) only [e, dmN h, dm7 h, dm13 h, dm21 h, dm29 h, dm35 h, dm75 h, dm115 h, dm155 h, dm195 h, dm0 h, dm40 h, dm80 h, dm120 h, dm160 h, d_fails1, d_fails0, d_10, d_01, d_00, d_11, true_or, or_true, or_self, if_true, if_false, reduceIte, Option.elim_none, Option.elim_some, Option.bind_some, d_up_up, d_a0, d_a1, d_a7, d_a13, d_a21, d_a29, d_a35, d_a40, d_a75, d_a80, d_a115, d_a120, d_a155, d_a160, d_a195, d_r1, d_nI0, d_ix, d_cl, d_le, d_lt, d_eq, d_at, d_pt, if_false, if_true, Int32.add_zero, Option.bind_some, reduceIte, Nat.zero_add, Bool.and_eq_true, decide_eq_true_eq, decide_true, decide_false, Bool.and_true, Bool.true_and, Bool.false_and, Bool.and_false, Bool.true_eq_false, Bool.false_eq_true, false_and, and_false, true_and, and_true, d_n0, d_lef, false_or, or_false, or_self, false_and, not_true_eq_false, not_false_eq_true, ne_eq, not_true, not_false_iff, aB_0, aB_1]
    · refine Or.inl ⟨Q 7 i, fun s h => ?_, fun s h => ?_⟩
      · rw [e, fe_X11_lesson]; unfold fb_X11_lesson
        simp +decide (disch := omega) only [cL_y hN h hi, dcN h, dc3 h, dc5 h, dc7 h, dc9 h, dc11 h, dc13 h, dc15 h, dc17 h, dc19 h, dc22 h, dc24 h, dc26 h, dc28 h, dc30 h, d_fails1, d_fails0, d_10, d_01, d_00, d_11, true_or, or_true, or_self, if_true, if_false, reduceIte, Option.elim_none, Option.elim_some, Option.bind_some, d_up_up, d_a0, d_a1, d_a7, d_a13, d_a21, d_a29, d_a35, d_a40, d_a75, d_a80, d_a115, d_a120, d_a155, d_a160, d_a195, d_r1, d_nI0, d_ix, d_cl, d_le, d_lt, d_eq, d_at, d_pt, if_false, if_true, Int32.add_zero, Option.bind_some, reduceIte, Nat.zero_add, Bool.and_eq_true, decide_eq_true_eq, decide_true, decide_false, Bool.and_true, Bool.true_and, Bool.false_and, Bool.and_false, Bool.true_eq_false, Bool.false_eq_true, false_and, and_false, true_and, and_true, d_n0, d_lef, false_or, or_false, or_self, false_and, not_true_eq_false, not_false_eq_true, ne_eq, not_true, not_false_iff, aB_0, aB_1]
      · have h0 := dM_726 h 0
        have hi2 : ∀ t : ga_M, v_X12_in b.toInt64 (0 : Int32).toInt64 (9 : Int32).toInt64 t = 1 := fun t => dm_inY (n := 10) (K := 9) (by omega) rfl ⟨6, by omega, e⟩
        rw [fe_X12_lesson]; unfold fb_X12_lesson
        simp only [mL_y hN h hi, hi2, d_fails1, d_fails0, d_10, d_01, d_00, d_11, true_or, or_true, or_self, if_true, if_false, reduceIte, Option.elim_none, Option.elim_some, Option.bind_some, d_up_up]
        generalize ga_up s 72 6 0 = u at h0 ⊢
        clear h
        have h := h0
        simp +decide (disch := omega) only [e, dmN h, dm7 h, dm13 h, dm21 h, dm29 h, dm35 h, dm75 h, dm115 h, dm155 h, dm195 h, dm0 h, dm40 h, dm80 h, dm120 h, dm160 h, d_fails1, d_fails0, d_10, d_01, d_00, d_11, true_or, or_true, or_self, if_true, if_false, reduceIte, Option.elim_none, Option.elim_some, Option.bind_some, d_up_up, d_a0, d_a1, d_a7, d_a13, d_a21, d_a29, d_a35, d_a40, d_a75, d_a80, d_a115, d_a120, d_a155, d_a160, d_a195, d_r1, d_nI0, d_ix, d_cl, d_le, d_lt, d_eq, d_at, d_pt, if_false, if_true, Int32.add_zero, Option.bind_some, reduceIte, Nat.zero_add, Bool.and_eq_true, decide_eq_true_eq, decide_true, decide_false, Bool.and_true, Bool.true_and, Bool.false_and, Bool.and_false, Bool.true_eq_false, Bool.false_eq_true, false_and, and_false, true_and, and_true, d_n0, d_lef, false_or, or_false, or_self, false_and, not_true_eq_false, not_false_eq_true, ne_eq, not_true, not_false_iff, aB_0, aB_1]
    · refine Or.inl ⟨Q 8 i, fun s h => ?_, fun s h => ?_⟩
      · rw [e, fe_X11_lesson]; unfold fb_X11_lesson
        simp +decide (disch := omega) only [cL_y hN h hi, dcN h, dc3 h, dc5 h, dc7 h, dc9 h, dc11 h, dc13 h, dc15 h, dc17 h, dc19 h, dc22 h, dc24 h, dc26 h, dc28 h, dc30 h, d_fails1, d_fails0, d_10, d_01, d_00, d_11, true_or, or_true, or_self, if_true, if_false, reduceIte, Option.elim_none, Option.elim_some, Option.bind_some, d_up_up, d_a0, d_a1, d_a7, d_a13, d_a21, d_a29, d_a35, d_a40, d_a75, d_a80, d_a115, d_a120, d_a155, d_a160, d_a195, d_r1, d_nI0, d_ix, d_cl, d_le, d_lt, d_eq, d_at, d_pt, if_false, if_true, Int32.add_zero, Option.bind_some, reduceIte, Nat.zero_add, Bool.and_eq_true, decide_eq_true_eq, decide_true, decide_false, Bool.and_true, Bool.true_and, Bool.false_and, Bool.and_false, Bool.true_eq_false, Bool.false_eq_true, false_and, and_false, true_and, and_true, d_n0, d_lef, false_or, or_false, or_self, false_and, not_true_eq_false, not_false_eq_true, ne_eq, not_true, not_false_iff, aB_0, aB_1]
      · have h0 := dM_726 h 0
        have hi2 : ∀ t : ga_M, v_X12_in b.toInt64 (0 : Int32).toInt64 (9 : Int32).toInt64 t = 1 := fun t => dm_inY (n := 10) (K := 9) (by omega) rfl ⟨7, by omega, e⟩
        rw [fe_X12_lesson]; unfold fb_X12_lesson
        simp only [mL_y hN h hi, hi2, d_fails1, d_fails0, d_10, d_01, d_00, d_11, true_or, or_true, or_self, if_true, if_false, reduceIte, Option.elim_none, Option.elim_some, Option.bind_some, d_up_up]
        generalize ga_up s 72 6 0 = u at h0 ⊢
        clear h
        have h := h0
        simp +decide (disch := omega) only [e, dmN h, dm7 h, dm13 h, dm21 h, dm29 h, dm35 h, dm75 h, dm115 h, dm155 h, dm195 h, dm0 h, dm40 h, dm80 h, dm120 h, dm160 h, d_fails1, d_fails0, d_10, d_01, d_00, d_11, true_or, or_true, or_self, if_true, if_false, reduceIte, Option.elim_none, Option.elim_some, Option.bind_some, d_up_up, d_a0, d_a1, d_a7, d_a13, d_a21, d_a29, d_a35, d_a40, d_a75, d_a80, d_a115, d_a120, d_a155, d_a160, d_a195, d_r1, d_nI0, d_ix, d_cl, d_le, d_lt, d_eq, d_at, d_pt, if_false, if_true, Int32.add_zero, Option.bind_some, reduceIte, Nat.zero_add, Bool.and_eq_true, decide_eq_true_eq, decide_true, decide_false, Bool.and_true, Bool.true_and, Bool.false_and, Bool.and_false, Bool.true_eq_false, Bool.false_eq_true, false_and, and_false, true_and, and_true, d_n0, d_lef, false_or, or_false, or_self, false_and, not_true_eq_false, not_false_eq_true, ne_eq, not_true, not_false_iff, aB_0, aB_1]
    · refine Or.inl ⟨Q 9 i, fun s h => ?_, fun s h => ?_⟩
      · rw [e, fe_X11_lesson]; unfold fb_X11_lesson
        simp +decide (disch := omega) only [cL_y hN h hi, dcN h, dc3 h, dc5 h, dc7 h, dc9 h, dc11 h, dc13 h, dc15 h, dc17 h, dc19 h, dc22 h, dc24 h, dc26 h, dc28 h, dc30 h, d_fails1, d_fails0, d_10, d_01, d_00, d_11, true_or, or_true, or_self, if_true, if_false, reduceIte, Option.elim_none, Option.elim_some, Option.bind_some, d_up_up, d_a0, d_a1, d_a7, d_a13, d_a21, d_a29, d_a35, d_a40, d_a75, d_a80, d_a115, d_a120, d_a155, d_a160, d_a195, d_r1, d_nI0, d_ix, d_cl, d_le, d_lt, d_eq, d_at, d_pt, if_false, if_true, Int32.add_zero, Option.bind_some, reduceIte, Nat.zero_add, Bool.and_eq_true, decide_eq_true_eq, decide_true, decide_false, Bool.and_true, Bool.true_and, Bool.false_and, Bool.and_false, Bool.true_eq_false, Bool.false_eq_true, false_and, and_false, true_and, and_true, d_n0, d_lef, false_or, or_false, or_self, false_and, not_true_eq_false, not_false_eq_true, ne_eq, not_true, not_false_iff, aB_0, aB_1]
      · have h0 := dM_726 h 0
        have hi2 : ∀ t : ga_M, v_X12_in b.toInt64 (0 : Int32).toInt64 (9 : Int32).toInt64 t = 1 := fun t => dm_inY (n := 10) (K := 9) (by omega) rfl ⟨8, by omega, e⟩
        rw [fe_X12_lesson]; unfold fb_X12_lesson
        simp only [mL_y hN h hi, hi2, d_fails1, d_fails0, d_10, d_01, d_00, d_11, true_or, or_true, or_self, if_true, if_false, reduceIte, Option.elim_none, Option.elim_some, Option.bind_some, d_up_up]
        generalize ga_up s 72 6 0 = u at h0 ⊢
        clear h
        have h := h0
        simp +decide (disch := omega) only [e, dmN h, dm7 h, dm13 h, dm21 h, dm29 h, dm35 h, dm75 h, dm115 h, dm155 h, dm195 h, dm0 h, dm40 h, dm80 h, dm120 h, dm160 h, d_fails1, d_fails0, d_10, d_01, d_00, d_11, true_or, or_true, or_self, if_true, if_false, reduceIte, Option.elim_none, Option.elim_some, Option.bind_some, d_up_up, d_a0, d_a1, d_a7, d_a13, d_a21, d_a29, d_a35, d_a40, d_a75, d_a80, d_a115, d_a120, d_a155, d_a160, d_a195, d_r1, d_nI0, d_ix, d_cl, d_le, d_lt, d_eq, d_at, d_pt, if_false, if_true, Int32.add_zero, Option.bind_some, reduceIte, Nat.zero_add, Bool.and_eq_true, decide_eq_true_eq, decide_true, decide_false, Bool.and_true, Bool.true_and, Bool.false_and, Bool.and_false, Bool.true_eq_false, Bool.false_eq_true, false_and, and_false, true_and, and_true, d_n0, d_lef, false_or, or_false, or_self, false_and, not_true_eq_false, not_false_eq_true, ne_eq, not_true, not_false_iff, aB_0, aB_1]
    · refine Or.inl ⟨aB (aDiff Q P i), fun s h => ?_, fun s h => ?_⟩
      · rw [e, fe_X11_lesson]; unfold fb_X11_lesson
        simp +decide (disch := omega) only [cL_y hN h hi, dc_differs hN h hi, dcN h, dc3 h, dc5 h, dc7 h, dc9 h, dc11 h, dc13 h, dc15 h, dc17 h, dc19 h, dc22 h, dc24 h, dc26 h, dc28 h, dc30 h, d_fails1, d_fails0, d_10, d_01, d_00, d_11, true_or, or_true, or_self, if_true, if_false, reduceIte, Option.elim_none, Option.elim_some, Option.bind_some, d_up_up, d_a0, d_a1, d_a7, d_a13, d_a21, d_a29, d_a35, d_a40, d_a75, d_a80, d_a115, d_a120, d_a155, d_a160, d_a195, d_r1, d_nI0, d_ix, d_cl, d_le, d_lt, d_eq, d_at, d_pt, if_false, if_true, Int32.add_zero, Option.bind_some, reduceIte, Nat.zero_add, Bool.and_eq_true, decide_eq_true_eq, decide_true, decide_false, Bool.and_true, Bool.true_and, Bool.false_and, Bool.and_false, Bool.true_eq_false, Bool.false_eq_true, false_and, and_false, true_and, and_true, d_n0, d_lef, false_or, or_false, or_self, false_and, not_true_eq_false, not_false_eq_true, ne_eq, not_true, not_false_iff, aB_0, aB_1]
        cases aDiff Q P i <;> rfl
      · have h0 := dM_726 h 0
        have hi2 : ∀ t : ga_M, v_X12_in b.toInt64 (0 : Int32).toInt64 (9 : Int32).toInt64 t = 1 := fun t => dm_inY (n := 10) (K := 9) (by omega) rfl ⟨9, by omega, e⟩
        rw [fe_X12_lesson]; unfold fb_X12_lesson
        simp only [mL_y hN h hi, hi2, d_fails1, d_fails0, d_10, d_01, d_00, d_11, true_or, or_true, or_self, if_true, if_false, reduceIte, Option.elim_none, Option.elim_some, Option.bind_some, d_up_up]
        generalize ga_up s 72 6 0 = u at h0 ⊢
        clear h
        have h := h0
        simp +decide (disch := omega) only [e, dm_differs hN h hi, dmN h, dm7 h, dm13 h, dm21 h, dm29 h, dm35 h, dm75 h, dm115 h, dm155 h, dm195 h, dm0 h, dm40 h, dm80 h, dm120 h, dm160 h, d_fails1, d_fails0, d_10, d_01, d_00, d_11, true_or, or_true, or_self, if_true, if_false, reduceIte, Option.elim_none, Option.elim_some, Option.bind_some, d_up_up, d_a0, d_a1, d_a7, d_a13, d_a21, d_a29, d_a35, d_a40, d_a75, d_a80, d_a115, d_a120, d_a155, d_a160, d_a195, d_r1, d_nI0, d_ix, d_cl, d_le, d_lt, d_eq, d_at, d_pt, if_false, if_true, Int32.add_zero, Option.bind_some, reduceIte, Nat.zero_add, Bool.and_eq_true, decide_eq_true_eq, decide_true, decide_false, Bool.and_true, Bool.true_and, Bool.false_and, Bool.and_false, Bool.true_eq_false, Bool.false_eq_true, false_and, and_false, true_and, and_true, d_n0, d_lef, false_or, or_false, or_self, false_and, not_true_eq_false, not_false_eq_true, ne_eq, not_true, not_false_iff, aB_0, aB_1]
        cases aDiff Q P i <;> rfl
    · have hi2 : ∀ t : ga_M, v_X12_in b.toInt64 (0 : Int32).toInt64 (9 : Int32).toInt64 t = 0 := fun t => dm_inN (n := 10) (K := 9) (by omega) rfl hn
      have n0 : b ≠ 0 := hn 0 (by omega)
      have n1 : b ≠ 1 := hn 1 (by omega)
      have n2 : b ≠ 2 := hn 2 (by omega)
      have n3 : b ≠ 3 := hn 3 (by omega)
      have n4 : b ≠ 4 := hn 4 (by omega)
      have n5 : b ≠ 5 := hn 5 (by omega)
      have n6 : b ≠ 6 := hn 6 (by omega)
      have n7 : b ≠ 7 := hn 7 (by omega)
      have n8 : b ≠ 8 := hn 8 (by omega)
      have n9 : b ≠ 9 := hn 9 (by omega)
      refine Or.inr ⟨2, by decide, fun s h => ?_, fun s h => ⟨0, ?_⟩⟩
      · rw [fe_X11_lesson]; unfold fb_X11_lesson
        simp (disch := omega) only [cL_y hN h hi, n0, n1, n2, n3, n4, n5, n6, n7, n8, n9, d_fails1, d_fails0, d_10, d_01, d_00, d_11, true_or, or_true, or_self, if_true, if_false, reduceIte, Option.elim_none, Option.elim_some, Option.bind_some, d_up_up]
      · rw [fe_X12_lesson]; unfold fb_X12_lesson
        simp only [mL_y hN h hi, hi2, dK_a, dK_31, dK_32, dK_34, d_fails1, d_fails0, d_10, d_01, d_00, d_11, true_or, or_true, or_self, if_true, if_false, reduceIte, Option.elim_none, Option.elim_some, Option.bind_some, d_up_up]
  · refine Or.inr ⟨3, by decide, fun s h => ?_, fun s h => ⟨0, ?_⟩⟩
    · rw [fe_X11_lesson]; unfold fb_X11_lesson
      simp only [cL_n hN h hno, d_fails1, d_fails0, d_10, d_01, d_00, d_11, true_or, or_true, or_self, if_true, if_false, reduceIte, Option.elim_none, Option.elim_some, Option.bind_some, d_up_up]
    · rw [fe_X12_lesson]; unfold fb_X12_lesson
      simp only [mL_n hN h hno, dK_a, dK_31, dK_32, dK_34, d_fails1, d_fails0, d_10, d_01, d_00, d_11, true_or, or_true, or_self, if_true, if_false, reduceIte, Option.elim_none, Option.elim_some, Option.bind_some, d_up_up]
theorem q_teacher (hW : dW N Q P) (a b : Int32) : dQc N Q P (f_X11_teacher a b) (f_X12_teacher a b) (dK 3 2) := by
  have hN := hW.1
  have hB := dWN_b hN
  rcases d_in a (N 3) (by omega) with ⟨i, hi, rfl⟩ | ⟨_, hno⟩
  · rcases d_what7 b with (e | e | e | e | e | e | e) | hn
    · refine Or.inl ⟨Q 2 i, fun s h => ?_, fun s h => ?_⟩
      · rw [e, fe_X11_teacher]; unfold fb_X11_teacher
        simp +decide (disch := omega) only [cT_y hN h hi, dcN h, dc3 h, dc5 h, dc7 h, dc9 h, dc11 h, dc13 h, dc15 h, dc17 h, dc19 h, dc22 h, dc24 h, dc26 h, dc28 h, dc30 h, d_fails1, d_fails0, d_10, d_01, d_00, d_11, true_or, or_true, or_self, if_true, if_false, reduceIte, Option.elim_none, Option.elim_some, Option.bind_some, d_up_up, d_a0, d_a1, d_a7, d_a13, d_a21, d_a29, d_a35, d_a40, d_a75, d_a80, d_a115, d_a120, d_a155, d_a160, d_a195, d_r1, d_nI0, d_ix, d_cl, d_le, d_lt, d_eq, d_at, d_pt, if_false, if_true, Int32.add_zero, Option.bind_some, reduceIte, Nat.zero_add, Bool.and_eq_true, decide_eq_true_eq, decide_true, decide_false, Bool.and_true, Bool.true_and, Bool.false_and, Bool.and_false, Bool.true_eq_false, Bool.false_eq_true, false_and, and_false, true_and, and_true, d_n0, d_lef, false_or, or_false, or_self, false_and, not_true_eq_false, not_false_eq_true, ne_eq, not_true, not_false_iff, aB_0, aB_1]
      · have h0 := dM_726 h 0
        have hi2 : ∀ t : ga_M, v_X12_in b.toInt64 (0 : Int32).toInt64 (6 : Int32).toInt64 t = 1 := fun t => dm_inY (n := 7) (K := 6) (by omega) rfl ⟨0, by omega, e⟩
        rw [fe_X12_teacher]; unfold fb_X12_teacher
        simp only [mT_y hN h hi, hi2, d_fails1, d_fails0, d_10, d_01, d_00, d_11, true_or, or_true, or_self, if_true, if_false, reduceIte, Option.elim_none, Option.elim_some, Option.bind_some, d_up_up]
        generalize ga_up s 72 6 0 = u at h0 ⊢
        clear h
        have h := h0
        simp +decide (disch := omega) only [e, dmN h, dm7 h, dm13 h, dm21 h, dm29 h, dm35 h, dm75 h, dm115 h, dm155 h, dm195 h, dm0 h, dm40 h, dm80 h, dm120 h, dm160 h, d_fails1, d_fails0, d_10, d_01, d_00, d_11, true_or, or_true, or_self, if_true, if_false, reduceIte, Option.elim_none, Option.elim_some, Option.bind_some, d_up_up, d_a0, d_a1, d_a7, d_a13, d_a21, d_a29, d_a35, d_a40, d_a75, d_a80, d_a115, d_a120, d_a155, d_a160, d_a195, d_r1, d_nI0, d_ix, d_cl, d_le, d_lt, d_eq, d_at, d_pt, if_false, if_true, Int32.add_zero, Option.bind_some, reduceIte, Nat.zero_add, Bool.and_eq_true, decide_eq_true_eq, decide_true, decide_false, Bool.and_true, Bool.true_and, Bool.false_and, Bool.and_false, Bool.true_eq_false, Bool.false_eq_true, false_and, and_false, true_and, and_true, d_n0, d_lef, false_or, or_false, or_self, false_and, not_true_eq_false, not_false_eq_true, ne_eq, not_true, not_false_iff, aB_0, aB_1]
    · refine Or.inl ⟨Q 3 i, fun s h => ?_, fun s h => ?_⟩
      · rw [e, fe_X11_teacher]; unfold fb_X11_teacher
        simp +decide (disch := omega) only [cT_y hN h hi, dcN h, dc3 h, dc5 h, dc7 h, dc9 h, dc11 h, dc13 h, dc15 h, dc17 h, dc19 h, dc22 h, dc24 h, dc26 h, dc28 h, dc30 h, d_fails1, d_fails0, d_10, d_01, d_00, d_11, true_or, or_true, or_self, if_true, if_false, reduceIte, Option.elim_none, Option.elim_some, Option.bind_some, d_up_up, d_a0, d_a1, d_a7, d_a13, d_a21, d_a29, d_a35, d_a40, d_a75, d_a80, d_a115, d_a120, d_a155, d_a160, d_a195, d_r1, d_nI0, d_ix, d_cl, d_le, d_lt, d_eq, d_at, d_pt, if_false, if_true, Int32.add_zero, Option.bind_some, reduceIte, Nat.zero_add, Bool.and_eq_true, decide_eq_true_eq, decide_true, decide_false, Bool.and_true, Bool.true_and, Bool.false_and, Bool.and_false, Bool.true_eq_false, Bool.false_eq_true, false_and, and_false, true_and, and_true, d_n0, d_lef, false_or, or_false, or_self, false_and, not_true_eq_false, not_false_eq_true, ne_eq, not_true, not_false_iff, aB_0, aB_1]
      · have h0 := dM_726 h 0
        have hi2 : ∀ t : ga_M, v_X12_in b.toInt64 (0 : Int32).toInt64 (6 : Int32).toInt64 t = 1 := fun t => dm_inY (n := 7) (K := 6) (by omega) rfl ⟨1, by omega, e⟩
        rw [fe_X12_teacher]; unfold fb_X12_teacher
        simp only [mT_y hN h hi, hi2, d_fails1, d_fails0, d_10, d_01, d_00, d_11, true_or, or_true, or_self, if_true, if_false, reduceIte, Option.elim_none, Option.elim_some, Option.bind_some, d_up_up]
        generalize ga_up s 72 6 0 = u at h0 ⊢
        clear h
        have h := h0
        simp +decide (disch := omega) only [e, dmN h, dm7 h, dm13 h, dm21 h, dm29 h, dm35 h, dm75 h, dm115 h, dm155 h, dm195 h, dm0 h, dm40 h, dm80 h, dm120 h, dm160 h, d_fails1, d_fails0, d_10, d_01, d_00, d_11, true_or, or_true, or_self, if_true, if_false, reduceIte, Option.elim_none, Option.elim_some, Option.bind_some, d_up_up, d_a0, d_a1, d_a7, d_a13, d_a21, d_a29, d_a35, d_a40, d_a75, d_a80, d_a115, d_a120, d_a155, d_a160, d_a195, d_r1, d_nI0, d_ix, d_cl, d_le, d_lt, d_eq, d_at, d_pt, if_false, if_true, Int32.add_zero, Option.bind_some, reduceIte, Nat.zero_add, Bool.and_eq_true, decide_eq_true_eq, decide_true, decide_false, Bool.and_true, Bool.true_and, Bool.false_and, Bool.and_false, Bool.true_eq_false, Bool.false_eq_true, false_and, and_false, true_and, and_true, d_n0, d_lef, false_or, or_false, or_self, false_and, not_true_eq_false, not_false_eq_true, ne_eq, not_true, not_false_iff, aB_0, aB_1]
    · refine Or.inl ⟨P 4 i, fun s h => ?_, fun s h => ?_⟩
      · rw [e, fe_X11_teacher]; unfold fb_X11_teacher
        simp +decide (disch := omega) only [cT_y hN h hi, dcN h, dc3 h, dc5 h, dc7 h, dc9 h, dc11 h, dc13 h, dc15 h, dc17 h, dc19 h, dc22 h, dc24 h, dc26 h, dc28 h, dc30 h, d_fails1, d_fails0, d_10, d_01, d_00, d_11, true_or, or_true, or_self, if_true, if_false, reduceIte, Option.elim_none, Option.elim_some, Option.bind_some, d_up_up, d_a0, d_a1, d_a7, d_a13, d_a21, d_a29, d_a35, d_a40, d_a75, d_a80, d_a115, d_a120, d_a155, d_a160, d_a195, d_r1, d_nI0, d_ix, d_cl, d_le, d_lt, d_eq, d_at, d_pt, if_false, if_true, Int32.add_zero, Option.bind_some, reduceIte, Nat.zero_add, Bool.and_eq_true, decide_eq_true_eq, decide_true, decide_false, Bool.and_true, Bool.true_and, Bool.false_and, Bool.and_false, Bool.true_eq_false, Bool.false_eq_true, false_and, and_false, true_and, and_true, d_n0, d_lef, false_or, or_false, or_self, false_and, not_true_eq_false, not_false_eq_true, ne_eq, not_true, not_false_iff, aB_0, aB_1]
      · have h0 := dM_726 h 0
        have hi2 : ∀ t : ga_M, v_X12_in b.toInt64 (0 : Int32).toInt64 (6 : Int32).toInt64 t = 1 := fun t => dm_inY (n := 7) (K := 6) (by omega) rfl ⟨2, by omega, e⟩
        rw [fe_X12_teacher]; unfold fb_X12_teacher
        simp only [mT_y hN h hi, hi2, d_fails1, d_fails0, d_10, d_01, d_00, d_11, true_or, or_true, or_self, if_true, if_false, reduceIte, Option.elim_none, Option.elim_some, Option.bind_some, d_up_up]
        generalize ga_up s 72 6 0 = u at h0 ⊢
        clear h
        have h := h0
        simp +decide (disch := omega) only [e, dmN h, dm7 h, dm13 h, dm21 h, dm29 h, dm35 h, dm75 h, dm115 h, dm155 h, dm195 h, dm0 h, dm40 h, dm80 h, dm120 h, dm160 h, d_fails1, d_fails0, d_10, d_01, d_00, d_11, true_or, or_true, or_self, if_true, if_false, reduceIte, Option.elim_none, Option.elim_some, Option.bind_some, d_up_up, d_a0, d_a1, d_a7, d_a13, d_a21, d_a29, d_a35, d_a40, d_a75, d_a80, d_a115, d_a120, d_a155, d_a160, d_a195, d_r1, d_nI0, d_ix, d_cl, d_le, d_lt, d_eq, d_at, d_pt, if_false, if_true, Int32.add_zero, Option.bind_some, reduceIte, Nat.zero_add, Bool.and_eq_true, decide_eq_true_eq, decide_true, decide_false, Bool.and_true, Bool.true_and, Bool.false_and, Bool.and_false, Bool.true_eq_false, Bool.false_eq_true, false_and, and_false, true_and, and_true, d_n0, d_lef, false_or, or_false, or_self, false_and, not_true_eq_false, not_false_eq_true, ne_eq, not_true, not_false_iff, aB_0, aB_1]
    · refine Or.inl ⟨aBy N P (nI i), fun s h => ?_, fun s h => ?_⟩
      · rw [e, fe_X11_teacher]; unfold fb_X11_teacher
        simp +decide (disch := omega) only [cT_y hN h hi, dc_taughtBy hN h, dcN h, dc3 h, dc5 h, dc7 h, dc9 h, dc11 h, dc13 h, dc15 h, dc17 h, dc19 h, dc22 h, dc24 h, dc26 h, dc28 h, dc30 h, d_fails1, d_fails0, d_10, d_01, d_00, d_11, true_or, or_true, or_self, if_true, if_false, reduceIte, Option.elim_none, Option.elim_some, Option.bind_some, d_up_up, d_a0, d_a1, d_a7, d_a13, d_a21, d_a29, d_a35, d_a40, d_a75, d_a80, d_a115, d_a120, d_a155, d_a160, d_a195, d_r1, d_nI0, d_ix, d_cl, d_le, d_lt, d_eq, d_at, d_pt, if_false, if_true, Int32.add_zero, Option.bind_some, reduceIte, Nat.zero_add, Bool.and_eq_true, decide_eq_true_eq, decide_true, decide_false, Bool.and_true, Bool.true_and, Bool.false_and, Bool.and_false, Bool.true_eq_false, Bool.false_eq_true, false_and, and_false, true_and, and_true, d_n0, d_lef, false_or, or_false, or_self, false_and, not_true_eq_false, not_false_eq_true, ne_eq, not_true, not_false_iff, aB_0, aB_1]
      · have h0 := dM_726 h 0
        have hi2 : ∀ t : ga_M, v_X12_in b.toInt64 (0 : Int32).toInt64 (6 : Int32).toInt64 t = 1 := fun t => dm_inY (n := 7) (K := 6) (by omega) rfl ⟨3, by omega, e⟩
        rw [fe_X12_teacher]; unfold fb_X12_teacher
        simp only [mT_y hN h hi, hi2, d_fails1, d_fails0, d_10, d_01, d_00, d_11, true_or, or_true, or_self, if_true, if_false, reduceIte, Option.elim_none, Option.elim_some, Option.bind_some, d_up_up]
        generalize ga_up s 72 6 0 = u at h0 ⊢
        clear h
        have h := h0
        simp +decide (disch := omega) only [e, dm_taughtBy hN h (d_ne1 (show i < 2147483648 by omega)), dmN h, dm7 h, dm13 h, dm21 h, dm29 h, dm35 h, dm75 h, dm115 h, dm155 h, dm195 h, dm0 h, dm40 h, dm80 h, dm120 h, dm160 h, d_fails1, d_fails0, d_10, d_01, d_00, d_11, true_or, or_true, or_self, if_true, if_false, reduceIte, Option.elim_none, Option.elim_some, Option.bind_some, d_up_up, d_a0, d_a1, d_a7, d_a13, d_a21, d_a29, d_a35, d_a40, d_a75, d_a80, d_a115, d_a120, d_a155, d_a160, d_a195, d_r1, d_nI0, d_ix, d_cl, d_le, d_lt, d_eq, d_at, d_pt, if_false, if_true, Int32.add_zero, Option.bind_some, reduceIte, Nat.zero_add, Bool.and_eq_true, decide_eq_true_eq, decide_true, decide_false, Bool.and_true, Bool.true_and, Bool.false_and, Bool.and_false, Bool.true_eq_false, Bool.false_eq_true, false_and, and_false, true_and, and_true, d_n0, d_lef, false_or, or_false, or_self, false_and, not_true_eq_false, not_false_eq_true, ne_eq, not_true, not_false_iff, aB_0, aB_1]
    · refine Or.inl ⟨aLoad N Q P (nI i), fun s h => ?_, fun s h => ?_⟩
      · rw [e, fe_X11_teacher]; unfold fb_X11_teacher
        simp +decide (disch := omega) only [cT_y hN h hi, dc_loadOf hN h, dcN h, dc3 h, dc5 h, dc7 h, dc9 h, dc11 h, dc13 h, dc15 h, dc17 h, dc19 h, dc22 h, dc24 h, dc26 h, dc28 h, dc30 h, d_fails1, d_fails0, d_10, d_01, d_00, d_11, true_or, or_true, or_self, if_true, if_false, reduceIte, Option.elim_none, Option.elim_some, Option.bind_some, d_up_up, d_a0, d_a1, d_a7, d_a13, d_a21, d_a29, d_a35, d_a40, d_a75, d_a80, d_a115, d_a120, d_a155, d_a160, d_a195, d_r1, d_nI0, d_ix, d_cl, d_le, d_lt, d_eq, d_at, d_pt, if_false, if_true, Int32.add_zero, Option.bind_some, reduceIte, Nat.zero_add, Bool.and_eq_true, decide_eq_true_eq, decide_true, decide_false, Bool.and_true, Bool.true_and, Bool.false_and, Bool.and_false, Bool.true_eq_false, Bool.false_eq_true, false_and, and_false, true_and, and_true, d_n0, d_lef, false_or, or_false, or_self, false_and, not_true_eq_false, not_false_eq_true, ne_eq, not_true, not_false_iff, aB_0, aB_1]
      · have h0 := dM_726 h 0
        have hi2 : ∀ t : ga_M, v_X12_in b.toInt64 (0 : Int32).toInt64 (6 : Int32).toInt64 t = 1 := fun t => dm_inY (n := 7) (K := 6) (by omega) rfl ⟨4, by omega, e⟩
        rw [fe_X12_teacher]; unfold fb_X12_teacher
        simp only [mT_y hN h hi, hi2, d_fails1, d_fails0, d_10, d_01, d_00, d_11, true_or, or_true, or_self, if_true, if_false, reduceIte, Option.elim_none, Option.elim_some, Option.bind_some, d_up_up]
        generalize ga_up s 72 6 0 = u at h0 ⊢
        clear h
        have h := h0
        simp +decide (disch := omega) only [e, dm_loadOf hN h (d_ne1 (show i < 2147483648 by omega)), dmN h, dm7 h, dm13 h, dm21 h, dm29 h, dm35 h, dm75 h, dm115 h, dm155 h, dm195 h, dm0 h, dm40 h, dm80 h, dm120 h, dm160 h, d_fails1, d_fails0, d_10, d_01, d_00, d_11, true_or, or_true, or_self, if_true, if_false, reduceIte, Option.elim_none, Option.elim_some, Option.bind_some, d_up_up, d_a0, d_a1, d_a7, d_a13, d_a21, d_a29, d_a35, d_a40, d_a75, d_a80, d_a115, d_a120, d_a155, d_a160, d_a195, d_r1, d_nI0, d_ix, d_cl, d_le, d_lt, d_eq, d_at, d_pt, if_false, if_true, Int32.add_zero, Option.bind_some, reduceIte, Nat.zero_add, Bool.and_eq_true, decide_eq_true_eq, decide_true, decide_false, Bool.and_true, Bool.true_and, Bool.false_and, Bool.and_false, Bool.true_eq_false, Bool.false_eq_true, false_and, and_false, true_and, and_true, d_n0, d_lef, false_or, or_false, or_self, false_and, not_true_eq_false, not_false_eq_true, ne_eq, not_true, not_false_iff, aB_0, aB_1]
    · refine Or.inl ⟨aDut N P (nI i), fun s h => ?_, fun s h => ?_⟩
      · rw [e, fe_X11_teacher]; unfold fb_X11_teacher
        simp +decide (disch := omega) only [cT_y hN h hi, dc_dutiesOf hN h, dcN h, dc3 h, dc5 h, dc7 h, dc9 h, dc11 h, dc13 h, dc15 h, dc17 h, dc19 h, dc22 h, dc24 h, dc26 h, dc28 h, dc30 h, d_fails1, d_fails0, d_10, d_01, d_00, d_11, true_or, or_true, or_self, if_true, if_false, reduceIte, Option.elim_none, Option.elim_some, Option.bind_some, d_up_up, d_a0, d_a1, d_a7, d_a13, d_a21, d_a29, d_a35, d_a40, d_a75, d_a80, d_a115, d_a120, d_a155, d_a160, d_a195, d_r1, d_nI0, d_ix, d_cl, d_le, d_lt, d_eq, d_at, d_pt, if_false, if_true, Int32.add_zero, Option.bind_some, reduceIte, Nat.zero_add, Bool.and_eq_true, decide_eq_true_eq, decide_true, decide_false, Bool.and_true, Bool.true_and, Bool.false_and, Bool.and_false, Bool.true_eq_false, Bool.false_eq_true, false_and, and_false, true_and, and_true, d_n0, d_lef, false_or, or_false, or_self, false_and, not_true_eq_false, not_false_eq_true, ne_eq, not_true, not_false_iff, aB_0, aB_1]
      · have h0 := dM_726 h 0
        have hi2 : ∀ t : ga_M, v_X12_in b.toInt64 (0 : Int32).toInt64 (6 : Int32).toInt64 t = 1 := fun t => dm_inY (n := 7) (K := 6) (by omega) rfl ⟨5, by omega, e⟩
        rw [fe_X12_teacher]; unfold fb_X12_teacher
        simp only [mT_y hN h hi, hi2, d_fails1, d_fails0, d_10, d_01, d_00, d_11, true_or, or_true, or_self, if_true, if_false, reduceIte, Option.elim_none, Option.elim_some, Option.bind_some, d_up_up]
        generalize ga_up s 72 6 0 = u at h0 ⊢
        clear h
        have h := h0
        simp +decide (disch := omega) only [e, dm_dutiesAll hN h, dmN h, dm7 h, dm13 h, dm21 h, dm29 h, dm35 h, dm75 h, dm115 h, dm155 h, dm195 h, dm0 h, dm40 h, dm80 h, dm120 h, dm160 h, d_fails1, d_fails0, d_10, d_01, d_00, d_11, true_or, or_true, or_self, if_true, if_false, reduceIte, Option.elim_none, Option.elim_some, Option.bind_some, d_up_up, d_a0, d_a1, d_a7, d_a13, d_a21, d_a29, d_a35, d_a40, d_a75, d_a80, d_a115, d_a120, d_a155, d_a160, d_a195, d_r1, d_nI0, d_ix, d_cl, d_le, d_lt, d_eq, d_at, d_pt, if_false, if_true, Int32.add_zero, Option.bind_some, reduceIte, Nat.zero_add, Bool.and_eq_true, decide_eq_true_eq, decide_true, decide_false, Bool.and_true, Bool.true_and, Bool.false_and, Bool.and_false, Bool.true_eq_false, Bool.false_eq_true, false_and, and_false, true_and, and_true, d_n0, d_lef, false_or, or_false, or_self, false_and, not_true_eq_false, not_false_eq_true, ne_eq, not_true, not_false_iff, aB_0, aB_1]
    · refine Or.inl ⟨aFirst N Q (nI i), fun s h => ?_, fun s h => ?_⟩
      · rw [e, fe_X11_teacher]; unfold fb_X11_teacher
        simp +decide (disch := omega) only [cT_y hN h hi, dc_with_16 hN h, dcN h, dc3 h, dc5 h, dc7 h, dc9 h, dc11 h, dc13 h, dc15 h, dc17 h, dc19 h, dc22 h, dc24 h, dc26 h, dc28 h, dc30 h, d_fails1, d_fails0, d_10, d_01, d_00, d_11, true_or, or_true, or_self, if_true, if_false, reduceIte, Option.elim_none, Option.elim_some, Option.bind_some, d_up_up, d_a0, d_a1, d_a7, d_a13, d_a21, d_a29, d_a35, d_a40, d_a75, d_a80, d_a115, d_a120, d_a155, d_a160, d_a195, d_r1, d_nI0, d_ix, d_cl, d_le, d_lt, d_eq, d_at, d_pt, if_false, if_true, Int32.add_zero, Option.bind_some, reduceIte, Nat.zero_add, Bool.and_eq_true, decide_eq_true_eq, decide_true, decide_false, Bool.and_true, Bool.true_and, Bool.false_and, Bool.and_false, Bool.true_eq_false, Bool.false_eq_true, false_and, and_false, true_and, and_true, d_n0, d_lef, false_or, or_false, or_self, false_and, not_true_eq_false, not_false_eq_true, ne_eq, not_true, not_false_iff, aB_0, aB_1]
        rfl
      · have h0 := dM_726 h 0
        have hi2 : ∀ t : ga_M, v_X12_in b.toInt64 (0 : Int32).toInt64 (6 : Int32).toInt64 t = 1 := fun t => dm_inY (n := 7) (K := 6) (by omega) rfl ⟨6, by omega, e⟩
        rw [fe_X12_teacher]; unfold fb_X12_teacher
        simp only [mT_y hN h hi, hi2, d_fails1, d_fails0, d_10, d_01, d_00, d_11, true_or, or_true, or_self, if_true, if_false, reduceIte, Option.elim_none, Option.elim_some, Option.bind_some, d_up_up]
        generalize ga_up s 72 6 0 = u at h0 ⊢
        clear h
        have h := h0
        simp +decide (disch := omega) only [e, dm_firstBy hN h, dmN h, dm7 h, dm13 h, dm21 h, dm29 h, dm35 h, dm75 h, dm115 h, dm155 h, dm195 h, dm0 h, dm40 h, dm80 h, dm120 h, dm160 h, d_fails1, d_fails0, d_10, d_01, d_00, d_11, true_or, or_true, or_self, if_true, if_false, reduceIte, Option.elim_none, Option.elim_some, Option.bind_some, d_up_up, d_a0, d_a1, d_a7, d_a13, d_a21, d_a29, d_a35, d_a40, d_a75, d_a80, d_a115, d_a120, d_a155, d_a160, d_a195, d_r1, d_nI0, d_ix, d_cl, d_le, d_lt, d_eq, d_at, d_pt, if_false, if_true, Int32.add_zero, Option.bind_some, reduceIte, Nat.zero_add, Bool.and_eq_true, decide_eq_true_eq, decide_true, decide_false, Bool.and_true, Bool.true_and, Bool.false_and, Bool.and_false, Bool.true_eq_false, Bool.false_eq_true, false_and, and_false, true_and, and_true, d_n0, d_lef, false_or, or_false, or_self, false_and, not_true_eq_false, not_false_eq_true, ne_eq, not_true, not_false_iff, aB_0, aB_1]
    · have hi2 : ∀ t : ga_M, v_X12_in b.toInt64 (0 : Int32).toInt64 (6 : Int32).toInt64 t = 0 := fun t => dm_inN (n := 7) (K := 6) (by omega) rfl hn
      have n0 : b ≠ 0 := hn 0 (by omega)
      have n1 : b ≠ 1 := hn 1 (by omega)
      have n2 : b ≠ 2 := hn 2 (by omega)
      have n3 : b ≠ 3 := hn 3 (by omega)
      have n4 : b ≠ 4 := hn 4 (by omega)
      have n5 : b ≠ 5 := hn 5 (by omega)
      have n6 : b ≠ 6 := hn 6 (by omega)
      refine Or.inr ⟨2, by decide, fun s h => ?_, fun s h => ⟨0, ?_⟩⟩
      · rw [fe_X11_teacher]; unfold fb_X11_teacher
        simp (disch := omega) only [cT_y hN h hi, n0, n1, n2, n3, n4, n5, n6, d_fails1, d_fails0, d_10, d_01, d_00, d_11, true_or, or_true, or_self, if_true, if_false, reduceIte, Option.elim_none, Option.elim_some, Option.bind_some, d_up_up]
      · rw [fe_X12_teacher]; unfold fb_X12_teacher
        simp only [mT_y hN h hi, hi2, dK_a, dK_31, dK_32, dK_34, d_fails1, d_fails0, d_10, d_01, d_00, d_11, true_or, or_true, or_self, if_true, if_false, reduceIte, Option.elim_none, Option.elim_some, Option.bind_some, d_up_up]
  · refine Or.inr ⟨3, by decide, fun s h => ?_, fun s h => ⟨0, ?_⟩⟩
    · rw [fe_X11_teacher]; unfold fb_X11_teacher
      simp only [cT_n hN h hno, d_fails1, d_fails0, d_10, d_01, d_00, d_11, true_or, or_true, or_self, if_true, if_false, reduceIte, Option.elim_none, Option.elim_some, Option.bind_some, d_up_up]
    · rw [fe_X12_teacher]; unfold fb_X12_teacher
      simp only [mT_n hN h hno, dK_a, dK_31, dK_32, dK_34, d_fails1, d_fails0, d_10, d_01, d_00, d_11, true_or, or_true, or_self, if_true, if_false, reduceIte, Option.elim_none, Option.elim_some, Option.bind_some, d_up_up]
theorem q_room (hW : dW N Q P) (a b : Int32) : dQc N Q P (f_X11_room a b) (f_X12_room a b) (dK 3 2) := by
  have hN := hW.1
  have hB := dWN_b hN
  rcases d_in a (N 4) (by omega) with ⟨i, hi, rfl⟩ | ⟨_, hno⟩
  · rcases d_what2 b with (e | e) | hn
    · refine Or.inl ⟨Q 4 i, fun s h => ?_, fun s h => ?_⟩
      · rw [e, fe_X11_room]; unfold fb_X11_room
        simp +decide (disch := omega) only [cR_y hN h hi, dcN h, dc3 h, dc5 h, dc7 h, dc9 h, dc11 h, dc13 h, dc15 h, dc17 h, dc19 h, dc22 h, dc24 h, dc26 h, dc28 h, dc30 h, d_fails1, d_fails0, d_10, d_01, d_00, d_11, true_or, or_true, or_self, if_true, if_false, reduceIte, Option.elim_none, Option.elim_some, Option.bind_some, d_up_up, d_a0, d_a1, d_a7, d_a13, d_a21, d_a29, d_a35, d_a40, d_a75, d_a80, d_a115, d_a120, d_a155, d_a160, d_a195, d_r1, d_nI0, d_ix, d_cl, d_le, d_lt, d_eq, d_at, d_pt, if_false, if_true, Int32.add_zero, Option.bind_some, reduceIte, Nat.zero_add, Bool.and_eq_true, decide_eq_true_eq, decide_true, decide_false, Bool.and_true, Bool.true_and, Bool.false_and, Bool.and_false, Bool.true_eq_false, Bool.false_eq_true, false_and, and_false, true_and, and_true, d_n0, d_lef, false_or, or_false, or_self, false_and, not_true_eq_false, not_false_eq_true, ne_eq, not_true, not_false_iff, aB_0, aB_1]
      · have h0 := dM_726 h 0
        have hi2 : ∀ t : ga_M, v_X12_in b.toInt64 (0 : Int32).toInt64 (1 : Int32).toInt64 t = 1 := fun t => dm_inY (n := 2) (K := 1) (by omega) rfl ⟨0, by omega, e⟩
        rw [fe_X12_room]; unfold fb_X12_room
        simp only [mR_y hN h hi, hi2, d_fails1, d_fails0, d_10, d_01, d_00, d_11, true_or, or_true, or_self, if_true, if_false, reduceIte, Option.elim_none, Option.elim_some, Option.bind_some, d_up_up]
        generalize ga_up s 72 6 0 = u at h0 ⊢
        clear h
        have h := h0
        simp +decide (disch := omega) only [e, dmN h, dm7 h, dm13 h, dm21 h, dm29 h, dm35 h, dm75 h, dm115 h, dm155 h, dm195 h, dm0 h, dm40 h, dm80 h, dm120 h, dm160 h, d_fails1, d_fails0, d_10, d_01, d_00, d_11, true_or, or_true, or_self, if_true, if_false, reduceIte, Option.elim_none, Option.elim_some, Option.bind_some, d_up_up, d_a0, d_a1, d_a7, d_a13, d_a21, d_a29, d_a35, d_a40, d_a75, d_a80, d_a115, d_a120, d_a155, d_a160, d_a195, d_r1, d_nI0, d_ix, d_cl, d_le, d_lt, d_eq, d_at, d_pt, if_false, if_true, Int32.add_zero, Option.bind_some, reduceIte, Nat.zero_add, Bool.and_eq_true, decide_eq_true_eq, decide_true, decide_false, Bool.and_true, Bool.true_and, Bool.false_and, Bool.and_false, Bool.true_eq_false, Bool.false_eq_true, false_and, and_false, true_and, and_true, d_n0, d_lef, false_or, or_false, or_self, false_and, not_true_eq_false, not_false_eq_true, ne_eq, not_true, not_false_iff, aB_0, aB_1]
    · refine Or.inl ⟨dCt (fun k => decide (P 2 k = nI i)) (N 6), fun s h => ?_, fun s h => ?_⟩
      · rw [e, fe_X11_room]; unfold fb_X11_room
        simp +decide (disch := omega) only [cR_y hN h hi, dc_with_25 hN h, dcN h, dc3 h, dc5 h, dc7 h, dc9 h, dc11 h, dc13 h, dc15 h, dc17 h, dc19 h, dc22 h, dc24 h, dc26 h, dc28 h, dc30 h, d_fails1, d_fails0, d_10, d_01, d_00, d_11, true_or, or_true, or_self, if_true, if_false, reduceIte, Option.elim_none, Option.elim_some, Option.bind_some, d_up_up, d_a0, d_a1, d_a7, d_a13, d_a21, d_a29, d_a35, d_a40, d_a75, d_a80, d_a115, d_a120, d_a155, d_a160, d_a195, d_r1, d_nI0, d_ix, d_cl, d_le, d_lt, d_eq, d_at, d_pt, if_false, if_true, Int32.add_zero, Option.bind_some, reduceIte, Nat.zero_add, Bool.and_eq_true, decide_eq_true_eq, decide_true, decide_false, Bool.and_true, Bool.true_and, Bool.false_and, Bool.and_false, Bool.true_eq_false, Bool.false_eq_true, false_and, and_false, true_and, and_true, d_n0, d_lef, false_or, or_false, or_self, false_and, not_true_eq_false, not_false_eq_true, ne_eq, not_true, not_false_iff, aB_0, aB_1]
      · have h0 := dM_726 h 0
        have hi2 : ∀ t : ga_M, v_X12_in b.toInt64 (0 : Int32).toInt64 (1 : Int32).toInt64 t = 1 := fun t => dm_inY (n := 2) (K := 1) (by omega) rfl ⟨1, by omega, e⟩
        rw [fe_X12_room]; unfold fb_X12_room
        simp only [mR_y hN h hi, hi2, d_fails1, d_fails0, d_10, d_01, d_00, d_11, true_or, or_true, or_self, if_true, if_false, reduceIte, Option.elim_none, Option.elim_some, Option.bind_some, d_up_up]
        generalize ga_up s 72 6 0 = u at h0 ⊢
        clear h
        have h := h0
        simp +decide (disch := omega) only [e, dmN h, dm7 h, dm13 h, dm21 h, dm29 h, dm35 h, dm75 h, dm115 h, dm155 h, dm195 h, dm0 h, dm40 h, dm80 h, dm120 h, dm160 h, d_fails1, d_fails0, d_10, d_01, d_00, d_11, true_or, or_true, or_self, if_true, if_false, reduceIte, Option.elim_none, Option.elim_some, Option.bind_some, d_up_up, d_a0, d_a1, d_a7, d_a13, d_a21, d_a29, d_a35, d_a40, d_a75, d_a80, d_a115, d_a120, d_a155, d_a160, d_a195, d_r1, d_nI0, d_ix, d_cl, d_le, d_lt, d_eq, d_at, d_pt, if_false, if_true, Int32.add_zero, Option.bind_some, reduceIte, Nat.zero_add, Bool.and_eq_true, decide_eq_true_eq, decide_true, decide_false, Bool.and_true, Bool.true_and, Bool.false_and, Bool.and_false, Bool.true_eq_false, Bool.false_eq_true, false_and, and_false, true_and, and_true, d_n0, d_lef, false_or, or_false, or_self, false_and, not_true_eq_false, not_false_eq_true, ne_eq, not_true, not_false_iff, aB_0, aB_1]
        refine (d_fold0 (F := fun n k a => f_X12_room_h65 n (nI i) a (nI k) u) (f := dCf (fun k => decide (P 2 k = nI i))) (g := fun a => some (a, u)) (N := N 6) (by omega) (fun n k a hk => ?_) (fun n a => ?_) 0)
        · simp (disch := omega) only [f_X12_room_h65, dmN h, dm7 h, dm13 h, dm21 h, dm29 h, dm35 h, dm75 h, dm115 h, dm155 h, dm195 h, dm0 h, dm40 h, dm80 h, dm120 h, dm160 h, d_a0, d_a1, d_a7, d_a13, d_a21, d_a29, d_a35, d_a40, d_a75, d_a80, d_a115, d_a120, d_a155, d_a160, d_a195, d_r1, d_nI0, d_ix, d_cl, d_le, d_lt, d_eq, d_at, d_pt, if_false, if_true, Int32.add_zero, Option.bind_some, reduceIte, Nat.zero_add, Bool.and_eq_true, decide_eq_true_eq, decide_true, decide_false, Bool.and_true, Bool.true_and, Bool.false_and, Bool.and_false, Bool.true_eq_false, Bool.false_eq_true, false_and, and_false, true_and, and_true, d_n0, d_lef, false_or, or_false, or_self, false_and, not_true_eq_false, not_false_eq_true, ne_eq, not_true, not_false_iff, aB_0, aB_1]
          by_cases c1 : P 2 k = nI i <;> simp [c1, dCf]
        · simp (disch := omega) only [f_X12_room_h65, dmN h, dm7 h, dm13 h, dm21 h, dm29 h, dm35 h, dm75 h, dm115 h, dm155 h, dm195 h, dm0 h, dm40 h, dm80 h, dm120 h, dm160 h]
          rw [if_pos (nI_le (Nat.le_refl _) (by omega))]
    · have hi2 : ∀ t : ga_M, v_X12_in b.toInt64 (0 : Int32).toInt64 (1 : Int32).toInt64 t = 0 := fun t => dm_inN (n := 2) (K := 1) (by omega) rfl hn
      have n0 : b ≠ 0 := hn 0 (by omega)
      have n1 : b ≠ 1 := hn 1 (by omega)
      refine Or.inr ⟨2, by decide, fun s h => ?_, fun s h => ⟨0, ?_⟩⟩
      · rw [fe_X11_room]; unfold fb_X11_room
        simp (disch := omega) only [cR_y hN h hi, n0, n1, d_fails1, d_fails0, d_10, d_01, d_00, d_11, true_or, or_true, or_self, if_true, if_false, reduceIte, Option.elim_none, Option.elim_some, Option.bind_some, d_up_up]
      · rw [fe_X12_room]; unfold fb_X12_room
        simp only [mR_y hN h hi, hi2, dK_a, dK_31, dK_32, dK_34, d_fails1, d_fails0, d_10, d_01, d_00, d_11, true_or, or_true, or_self, if_true, if_false, reduceIte, Option.elim_none, Option.elim_some, Option.bind_some, d_up_up]
  · refine Or.inr ⟨3, by decide, fun s h => ?_, fun s h => ⟨0, ?_⟩⟩
    · rw [fe_X11_room]; unfold fb_X11_room
      simp only [cR_n hN h hno, d_fails1, d_fails0, d_10, d_01, d_00, d_11, true_or, or_true, or_self, if_true, if_false, reduceIte, Option.elim_none, Option.elim_some, Option.bind_some, d_up_up]
    · rw [fe_X12_room]; unfold fb_X12_room
      simp only [mR_n hN h hno, dK_a, dK_31, dK_32, dK_34, d_fails1, d_fails0, d_10, d_01, d_00, d_11, true_or, or_true, or_self, if_true, if_false, reduceIte, Option.elim_none, Option.elim_some, Option.bind_some, d_up_up]
theorem q_count (hW : dW N Q P) (b : Int32) : dQc N Q P (f_X11_count b) (f_X12_count b) (dK 2 2) := by
  have hN := hW.1
  have hB := dWN_b hN
  rcases d_what10 b with (e | e | e | e | e | e | e | e | e | e) | hn
  · refine Or.inl ⟨nI (N 0), fun s h => ?_, fun s h => ?_⟩
    · rw [e, fe_X11_count]; unfold fb_X11_count
      simp +decide (disch := omega) only [dcN h, dc3 h, dc5 h, dc7 h, dc9 h, dc11 h, dc13 h, dc15 h, dc17 h, dc19 h, dc22 h, dc24 h, dc26 h, dc28 h, dc30 h, d_fails1, d_fails0, d_10, d_01, d_00, d_11, true_or, or_true, or_self, if_true, if_false, reduceIte, Option.elim_none, Option.elim_some, Option.bind_some, d_up_up, d_a0, d_a1, d_a7, d_a13, d_a21, d_a29, d_a35, d_a40, d_a75, d_a80, d_a115, d_a120, d_a155, d_a160, d_a195, d_r1, d_nI0, d_ix, d_cl, d_le, d_lt, d_eq, d_at, d_pt, if_false, if_true, Int32.add_zero, Option.bind_some, reduceIte, Nat.zero_add, Bool.and_eq_true, decide_eq_true_eq, decide_true, decide_false, Bool.and_true, Bool.true_and, Bool.false_and, Bool.and_false, Bool.true_eq_false, Bool.false_eq_true, false_and, and_false, true_and, and_true, d_n0, d_lef, false_or, or_false, or_self, false_and, not_true_eq_false, not_false_eq_true, ne_eq, not_true, not_false_iff, aB_0, aB_1]
    · have h0 := dM_726 h 0
      have hi2 : ∀ t : ga_M, v_X12_in b.toInt64 (0 : Int32).toInt64 (9 : Int32).toInt64 t = 1 := fun t => dm_inY (n := 10) (K := 9) (by omega) rfl ⟨0, by omega, e⟩
      rw [fe_X12_count]; unfold fb_X12_count
      simp only [hi2, d_fails1, d_fails0, d_10, d_01, d_00, d_11, true_or, or_true, or_self, if_true, if_false, reduceIte, Option.elim_none, Option.elim_some, Option.bind_some, d_up_up]
      generalize ga_up s 72 6 0 = u at h0 ⊢
      clear h
      have h := h0
      simp +decide (disch := omega) only [e, dmN h, dm7 h, dm13 h, dm21 h, dm29 h, dm35 h, dm75 h, dm115 h, dm155 h, dm195 h, dm0 h, dm40 h, dm80 h, dm120 h, dm160 h, d_fails1, d_fails0, d_10, d_01, d_00, d_11, true_or, or_true, or_self, if_true, if_false, reduceIte, Option.elim_none, Option.elim_some, Option.bind_some, d_up_up, d_a0, d_a1, d_a7, d_a13, d_a21, d_a29, d_a35, d_a40, d_a75, d_a80, d_a115, d_a120, d_a155, d_a160, d_a195, d_r1, d_nI0, d_ix, d_cl, d_le, d_lt, d_eq, d_at, d_pt, if_false, if_true, Int32.add_zero, Option.bind_some, reduceIte, Nat.zero_add, Bool.and_eq_true, decide_eq_true_eq, decide_true, decide_false, Bool.and_true, Bool.true_and, Bool.false_and, Bool.and_false, Bool.true_eq_false, Bool.false_eq_true, false_and, and_false, true_and, and_true, d_n0, d_lef, false_or, or_false, or_self, false_and, not_true_eq_false, not_false_eq_true, ne_eq, not_true, not_false_iff, aB_0, aB_1]
      rw [show ((0 : Int32).toNatClampNeg) = 0 from rfl, dmN h (by decide)]
  · refine Or.inl ⟨nI (N 1), fun s h => ?_, fun s h => ?_⟩
    · rw [e, fe_X11_count]; unfold fb_X11_count
      simp +decide (disch := omega) only [dcN h, dc3 h, dc5 h, dc7 h, dc9 h, dc11 h, dc13 h, dc15 h, dc17 h, dc19 h, dc22 h, dc24 h, dc26 h, dc28 h, dc30 h, d_fails1, d_fails0, d_10, d_01, d_00, d_11, true_or, or_true, or_self, if_true, if_false, reduceIte, Option.elim_none, Option.elim_some, Option.bind_some, d_up_up, d_a0, d_a1, d_a7, d_a13, d_a21, d_a29, d_a35, d_a40, d_a75, d_a80, d_a115, d_a120, d_a155, d_a160, d_a195, d_r1, d_nI0, d_ix, d_cl, d_le, d_lt, d_eq, d_at, d_pt, if_false, if_true, Int32.add_zero, Option.bind_some, reduceIte, Nat.zero_add, Bool.and_eq_true, decide_eq_true_eq, decide_true, decide_false, Bool.and_true, Bool.true_and, Bool.false_and, Bool.and_false, Bool.true_eq_false, Bool.false_eq_true, false_and, and_false, true_and, and_true, d_n0, d_lef, false_or, or_false, or_self, false_and, not_true_eq_false, not_false_eq_true, ne_eq, not_true, not_false_iff, aB_0, aB_1]
    · have h0 := dM_726 h 0
      have hi2 : ∀ t : ga_M, v_X12_in b.toInt64 (0 : Int32).toInt64 (9 : Int32).toInt64 t = 1 := fun t => dm_inY (n := 10) (K := 9) (by omega) rfl ⟨1, by omega, e⟩
      rw [fe_X12_count]; unfold fb_X12_count
      simp only [hi2, d_fails1, d_fails0, d_10, d_01, d_00, d_11, true_or, or_true, or_self, if_true, if_false, reduceIte, Option.elim_none, Option.elim_some, Option.bind_some, d_up_up]
      generalize ga_up s 72 6 0 = u at h0 ⊢
      clear h
      have h := h0
      simp +decide (disch := omega) only [e, dmN h, dm7 h, dm13 h, dm21 h, dm29 h, dm35 h, dm75 h, dm115 h, dm155 h, dm195 h, dm0 h, dm40 h, dm80 h, dm120 h, dm160 h, d_fails1, d_fails0, d_10, d_01, d_00, d_11, true_or, or_true, or_self, if_true, if_false, reduceIte, Option.elim_none, Option.elim_some, Option.bind_some, d_up_up, d_a0, d_a1, d_a7, d_a13, d_a21, d_a29, d_a35, d_a40, d_a75, d_a80, d_a115, d_a120, d_a155, d_a160, d_a195, d_r1, d_nI0, d_ix, d_cl, d_le, d_lt, d_eq, d_at, d_pt, if_false, if_true, Int32.add_zero, Option.bind_some, reduceIte, Nat.zero_add, Bool.and_eq_true, decide_eq_true_eq, decide_true, decide_false, Bool.and_true, Bool.true_and, Bool.false_and, Bool.and_false, Bool.true_eq_false, Bool.false_eq_true, false_and, and_false, true_and, and_true, d_n0, d_lef, false_or, or_false, or_self, false_and, not_true_eq_false, not_false_eq_true, ne_eq, not_true, not_false_iff, aB_0, aB_1]
      rw [show ((1 : Int32).toNatClampNeg) = 1 from rfl, dmN h (by decide)]
  · refine Or.inl ⟨nI (N 2), fun s h => ?_, fun s h => ?_⟩
    · rw [e, fe_X11_count]; unfold fb_X11_count
      simp +decide (disch := omega) only [dcN h, dc3 h, dc5 h, dc7 h, dc9 h, dc11 h, dc13 h, dc15 h, dc17 h, dc19 h, dc22 h, dc24 h, dc26 h, dc28 h, dc30 h, d_fails1, d_fails0, d_10, d_01, d_00, d_11, true_or, or_true, or_self, if_true, if_false, reduceIte, Option.elim_none, Option.elim_some, Option.bind_some, d_up_up, d_a0, d_a1, d_a7, d_a13, d_a21, d_a29, d_a35, d_a40, d_a75, d_a80, d_a115, d_a120, d_a155, d_a160, d_a195, d_r1, d_nI0, d_ix, d_cl, d_le, d_lt, d_eq, d_at, d_pt, if_false, if_true, Int32.add_zero, Option.bind_some, reduceIte, Nat.zero_add, Bool.and_eq_true, decide_eq_true_eq, decide_true, decide_false, Bool.and_true, Bool.true_and, Bool.false_and, Bool.and_false, Bool.true_eq_false, Bool.false_eq_true, false_and, and_false, true_and, and_true, d_n0, d_lef, false_or, or_false, or_self, false_and, not_true_eq_false, not_false_eq_true, ne_eq, not_true, not_false_iff, aB_0, aB_1]
    · have h0 := dM_726 h 0
      have hi2 : ∀ t : ga_M, v_X12_in b.toInt64 (0 : Int32).toInt64 (9 : Int32).toInt64 t = 1 := fun t => dm_inY (n := 10) (K := 9) (by omega) rfl ⟨2, by omega, e⟩
      rw [fe_X12_count]; unfold fb_X12_count
      simp only [hi2, d_fails1, d_fails0, d_10, d_01, d_00, d_11, true_or, or_true, or_self, if_true, if_false, reduceIte, Option.elim_none, Option.elim_some, Option.bind_some, d_up_up]
      generalize ga_up s 72 6 0 = u at h0 ⊢
      clear h
      have h := h0
      simp +decide (disch := omega) only [e, dmN h, dm7 h, dm13 h, dm21 h, dm29 h, dm35 h, dm75 h, dm115 h, dm155 h, dm195 h, dm0 h, dm40 h, dm80 h, dm120 h, dm160 h, d_fails1, d_fails0, d_10, d_01, d_00, d_11, true_or, or_true, or_self, if_true, if_false, reduceIte, Option.elim_none, Option.elim_some, Option.bind_some, d_up_up, d_a0, d_a1, d_a7, d_a13, d_a21, d_a29, d_a35, d_a40, d_a75, d_a80, d_a115, d_a120, d_a155, d_a160, d_a195, d_r1, d_nI0, d_ix, d_cl, d_le, d_lt, d_eq, d_at, d_pt, if_false, if_true, Int32.add_zero, Option.bind_some, reduceIte, Nat.zero_add, Bool.and_eq_true, decide_eq_true_eq, decide_true, decide_false, Bool.and_true, Bool.true_and, Bool.false_and, Bool.and_false, Bool.true_eq_false, Bool.false_eq_true, false_and, and_false, true_and, and_true, d_n0, d_lef, false_or, or_false, or_self, false_and, not_true_eq_false, not_false_eq_true, ne_eq, not_true, not_false_iff, aB_0, aB_1]
      rw [show ((2 : Int32).toNatClampNeg) = 2 from rfl, dmN h (by decide)]
  · refine Or.inl ⟨nI (N 3), fun s h => ?_, fun s h => ?_⟩
    · rw [e, fe_X11_count]; unfold fb_X11_count
      simp +decide (disch := omega) only [dcN h, dc3 h, dc5 h, dc7 h, dc9 h, dc11 h, dc13 h, dc15 h, dc17 h, dc19 h, dc22 h, dc24 h, dc26 h, dc28 h, dc30 h, d_fails1, d_fails0, d_10, d_01, d_00, d_11, true_or, or_true, or_self, if_true, if_false, reduceIte, Option.elim_none, Option.elim_some, Option.bind_some, d_up_up, d_a0, d_a1, d_a7, d_a13, d_a21, d_a29, d_a35, d_a40, d_a75, d_a80, d_a115, d_a120, d_a155, d_a160, d_a195, d_r1, d_nI0, d_ix, d_cl, d_le, d_lt, d_eq, d_at, d_pt, if_false, if_true, Int32.add_zero, Option.bind_some, reduceIte, Nat.zero_add, Bool.and_eq_true, decide_eq_true_eq, decide_true, decide_false, Bool.and_true, Bool.true_and, Bool.false_and, Bool.and_false, Bool.true_eq_false, Bool.false_eq_true, false_and, and_false, true_and, and_true, d_n0, d_lef, false_or, or_false, or_self, false_and, not_true_eq_false, not_false_eq_true, ne_eq, not_true, not_false_iff, aB_0, aB_1]
    · have h0 := dM_726 h 0
      have hi2 : ∀ t : ga_M, v_X12_in b.toInt64 (0 : Int32).toInt64 (9 : Int32).toInt64 t = 1 := fun t => dm_inY (n := 10) (K := 9) (by omega) rfl ⟨3, by omega, e⟩
      rw [fe_X12_count]; unfold fb_X12_count
      simp only [hi2, d_fails1, d_fails0, d_10, d_01, d_00, d_11, true_or, or_true, or_self, if_true, if_false, reduceIte, Option.elim_none, Option.elim_some, Option.bind_some, d_up_up]
      generalize ga_up s 72 6 0 = u at h0 ⊢
      clear h
      have h := h0
      simp +decide (disch := omega) only [e, dmN h, dm7 h, dm13 h, dm21 h, dm29 h, dm35 h, dm75 h, dm115 h, dm155 h, dm195 h, dm0 h, dm40 h, dm80 h, dm120 h, dm160 h, d_fails1, d_fails0, d_10, d_01, d_00, d_11, true_or, or_true, or_self, if_true, if_false, reduceIte, Option.elim_none, Option.elim_some, Option.bind_some, d_up_up, d_a0, d_a1, d_a7, d_a13, d_a21, d_a29, d_a35, d_a40, d_a75, d_a80, d_a115, d_a120, d_a155, d_a160, d_a195, d_r1, d_nI0, d_ix, d_cl, d_le, d_lt, d_eq, d_at, d_pt, if_false, if_true, Int32.add_zero, Option.bind_some, reduceIte, Nat.zero_add, Bool.and_eq_true, decide_eq_true_eq, decide_true, decide_false, Bool.and_true, Bool.true_and, Bool.false_and, Bool.and_false, Bool.true_eq_false, Bool.false_eq_true, false_and, and_false, true_and, and_true, d_n0, d_lef, false_or, or_false, or_self, false_and, not_true_eq_false, not_false_eq_true, ne_eq, not_true, not_false_iff, aB_0, aB_1]
      rw [show ((3 : Int32).toNatClampNeg) = 3 from rfl, dmN h (by decide)]
  · refine Or.inl ⟨nI (N 4), fun s h => ?_, fun s h => ?_⟩
    · rw [e, fe_X11_count]; unfold fb_X11_count
      simp +decide (disch := omega) only [dcN h, dc3 h, dc5 h, dc7 h, dc9 h, dc11 h, dc13 h, dc15 h, dc17 h, dc19 h, dc22 h, dc24 h, dc26 h, dc28 h, dc30 h, d_fails1, d_fails0, d_10, d_01, d_00, d_11, true_or, or_true, or_self, if_true, if_false, reduceIte, Option.elim_none, Option.elim_some, Option.bind_some, d_up_up, d_a0, d_a1, d_a7, d_a13, d_a21, d_a29, d_a35, d_a40, d_a75, d_a80, d_a115, d_a120, d_a155, d_a160, d_a195, d_r1, d_nI0, d_ix, d_cl, d_le, d_lt, d_eq, d_at, d_pt, if_false, if_true, Int32.add_zero, Option.bind_some, reduceIte, Nat.zero_add, Bool.and_eq_true, decide_eq_true_eq, decide_true, decide_false, Bool.and_true, Bool.true_and, Bool.false_and, Bool.and_false, Bool.true_eq_false, Bool.false_eq_true, false_and, and_false, true_and, and_true, d_n0, d_lef, false_or, or_false, or_self, false_and, not_true_eq_false, not_false_eq_true, ne_eq, not_true, not_false_iff, aB_0, aB_1]
    · have h0 := dM_726 h 0
      have hi2 : ∀ t : ga_M, v_X12_in b.toInt64 (0 : Int32).toInt64 (9 : Int32).toInt64 t = 1 := fun t => dm_inY (n := 10) (K := 9) (by omega) rfl ⟨4, by omega, e⟩
      rw [fe_X12_count]; unfold fb_X12_count
      simp only [hi2, d_fails1, d_fails0, d_10, d_01, d_00, d_11, true_or, or_true, or_self, if_true, if_false, reduceIte, Option.elim_none, Option.elim_some, Option.bind_some, d_up_up]
      generalize ga_up s 72 6 0 = u at h0 ⊢
      clear h
      have h := h0
      simp +decide (disch := omega) only [e, dmN h, dm7 h, dm13 h, dm21 h, dm29 h, dm35 h, dm75 h, dm115 h, dm155 h, dm195 h, dm0 h, dm40 h, dm80 h, dm120 h, dm160 h, d_fails1, d_fails0, d_10, d_01, d_00, d_11, true_or, or_true, or_self, if_true, if_false, reduceIte, Option.elim_none, Option.elim_some, Option.bind_some, d_up_up, d_a0, d_a1, d_a7, d_a13, d_a21, d_a29, d_a35, d_a40, d_a75, d_a80, d_a115, d_a120, d_a155, d_a160, d_a195, d_r1, d_nI0, d_ix, d_cl, d_le, d_lt, d_eq, d_at, d_pt, if_false, if_true, Int32.add_zero, Option.bind_some, reduceIte, Nat.zero_add, Bool.and_eq_true, decide_eq_true_eq, decide_true, decide_false, Bool.and_true, Bool.true_and, Bool.false_and, Bool.and_false, Bool.true_eq_false, Bool.false_eq_true, false_and, and_false, true_and, and_true, d_n0, d_lef, false_or, or_false, or_self, false_and, not_true_eq_false, not_false_eq_true, ne_eq, not_true, not_false_iff, aB_0, aB_1]
      rw [show ((4 : Int32).toNatClampNeg) = 4 from rfl, dmN h (by decide)]
  · refine Or.inl ⟨nI (N 5), fun s h => ?_, fun s h => ?_⟩
    · rw [e, fe_X11_count]; unfold fb_X11_count
      simp +decide (disch := omega) only [dcN h, dc3 h, dc5 h, dc7 h, dc9 h, dc11 h, dc13 h, dc15 h, dc17 h, dc19 h, dc22 h, dc24 h, dc26 h, dc28 h, dc30 h, d_fails1, d_fails0, d_10, d_01, d_00, d_11, true_or, or_true, or_self, if_true, if_false, reduceIte, Option.elim_none, Option.elim_some, Option.bind_some, d_up_up, d_a0, d_a1, d_a7, d_a13, d_a21, d_a29, d_a35, d_a40, d_a75, d_a80, d_a115, d_a120, d_a155, d_a160, d_a195, d_r1, d_nI0, d_ix, d_cl, d_le, d_lt, d_eq, d_at, d_pt, if_false, if_true, Int32.add_zero, Option.bind_some, reduceIte, Nat.zero_add, Bool.and_eq_true, decide_eq_true_eq, decide_true, decide_false, Bool.and_true, Bool.true_and, Bool.false_and, Bool.and_false, Bool.true_eq_false, Bool.false_eq_true, false_and, and_false, true_and, and_true, d_n0, d_lef, false_or, or_false, or_self, false_and, not_true_eq_false, not_false_eq_true, ne_eq, not_true, not_false_iff, aB_0, aB_1]
    · have h0 := dM_726 h 0
      have hi2 : ∀ t : ga_M, v_X12_in b.toInt64 (0 : Int32).toInt64 (9 : Int32).toInt64 t = 1 := fun t => dm_inY (n := 10) (K := 9) (by omega) rfl ⟨5, by omega, e⟩
      rw [fe_X12_count]; unfold fb_X12_count
      simp only [hi2, d_fails1, d_fails0, d_10, d_01, d_00, d_11, true_or, or_true, or_self, if_true, if_false, reduceIte, Option.elim_none, Option.elim_some, Option.bind_some, d_up_up]
      generalize ga_up s 72 6 0 = u at h0 ⊢
      clear h
      have h := h0
      simp +decide (disch := omega) only [e, dmN h, dm7 h, dm13 h, dm21 h, dm29 h, dm35 h, dm75 h, dm115 h, dm155 h, dm195 h, dm0 h, dm40 h, dm80 h, dm120 h, dm160 h, d_fails1, d_fails0, d_10, d_01, d_00, d_11, true_or, or_true, or_self, if_true, if_false, reduceIte, Option.elim_none, Option.elim_some, Option.bind_some, d_up_up, d_a0, d_a1, d_a7, d_a13, d_a21, d_a29, d_a35, d_a40, d_a75, d_a80, d_a115, d_a120, d_a155, d_a160, d_a195, d_r1, d_nI0, d_ix, d_cl, d_le, d_lt, d_eq, d_at, d_pt, if_false, if_true, Int32.add_zero, Option.bind_some, reduceIte, Nat.zero_add, Bool.and_eq_true, decide_eq_true_eq, decide_true, decide_false, Bool.and_true, Bool.true_and, Bool.false_and, Bool.and_false, Bool.true_eq_false, Bool.false_eq_true, false_and, and_false, true_and, and_true, d_n0, d_lef, false_or, or_false, or_self, false_and, not_true_eq_false, not_false_eq_true, ne_eq, not_true, not_false_iff, aB_0, aB_1]
      rw [show ((5 : Int32).toNatClampNeg) = 5 from rfl, dmN h (by decide)]
  · refine Or.inl ⟨nI (N 6), fun s h => ?_, fun s h => ?_⟩
    · rw [e, fe_X11_count]; unfold fb_X11_count
      simp +decide (disch := omega) only [dcN h, dc3 h, dc5 h, dc7 h, dc9 h, dc11 h, dc13 h, dc15 h, dc17 h, dc19 h, dc22 h, dc24 h, dc26 h, dc28 h, dc30 h, d_fails1, d_fails0, d_10, d_01, d_00, d_11, true_or, or_true, or_self, if_true, if_false, reduceIte, Option.elim_none, Option.elim_some, Option.bind_some, d_up_up, d_a0, d_a1, d_a7, d_a13, d_a21, d_a29, d_a35, d_a40, d_a75, d_a80, d_a115, d_a120, d_a155, d_a160, d_a195, d_r1, d_nI0, d_ix, d_cl, d_le, d_lt, d_eq, d_at, d_pt, if_false, if_true, Int32.add_zero, Option.bind_some, reduceIte, Nat.zero_add, Bool.and_eq_true, decide_eq_true_eq, decide_true, decide_false, Bool.and_true, Bool.true_and, Bool.false_and, Bool.and_false, Bool.true_eq_false, Bool.false_eq_true, false_and, and_false, true_and, and_true, d_n0, d_lef, false_or, or_false, or_self, false_and, not_true_eq_false, not_false_eq_true, ne_eq, not_true, not_false_iff, aB_0, aB_1]
    · have h0 := dM_726 h 0
      have hi2 : ∀ t : ga_M, v_X12_in b.toInt64 (0 : Int32).toInt64 (9 : Int32).toInt64 t = 1 := fun t => dm_inY (n := 10) (K := 9) (by omega) rfl ⟨6, by omega, e⟩
      rw [fe_X12_count]; unfold fb_X12_count
      simp only [hi2, d_fails1, d_fails0, d_10, d_01, d_00, d_11, true_or, or_true, or_self, if_true, if_false, reduceIte, Option.elim_none, Option.elim_some, Option.bind_some, d_up_up]
      generalize ga_up s 72 6 0 = u at h0 ⊢
      clear h
      have h := h0
      simp +decide (disch := omega) only [e, dmN h, dm7 h, dm13 h, dm21 h, dm29 h, dm35 h, dm75 h, dm115 h, dm155 h, dm195 h, dm0 h, dm40 h, dm80 h, dm120 h, dm160 h, d_fails1, d_fails0, d_10, d_01, d_00, d_11, true_or, or_true, or_self, if_true, if_false, reduceIte, Option.elim_none, Option.elim_some, Option.bind_some, d_up_up, d_a0, d_a1, d_a7, d_a13, d_a21, d_a29, d_a35, d_a40, d_a75, d_a80, d_a115, d_a120, d_a155, d_a160, d_a195, d_r1, d_nI0, d_ix, d_cl, d_le, d_lt, d_eq, d_at, d_pt, if_false, if_true, Int32.add_zero, Option.bind_some, reduceIte, Nat.zero_add, Bool.and_eq_true, decide_eq_true_eq, decide_true, decide_false, Bool.and_true, Bool.true_and, Bool.false_and, Bool.and_false, Bool.true_eq_false, Bool.false_eq_true, false_and, and_false, true_and, and_true, d_n0, d_lef, false_or, or_false, or_self, false_and, not_true_eq_false, not_false_eq_true, ne_eq, not_true, not_false_iff, aB_0, aB_1]
      rw [show ((6 : Int32).toNatClampNeg) = 6 from rfl, dmN h (by decide)]
  · refine Or.inl ⟨dCt (fun k => decide (P 1 k = -1)) (N 6), fun s h => ?_, fun s h => ?_⟩
    · rw [e, fe_X11_count]; unfold fb_X11_count
      simp +decide (disch := omega) only [dc_open hN h, dcN h, dc3 h, dc5 h, dc7 h, dc9 h, dc11 h, dc13 h, dc15 h, dc17 h, dc19 h, dc22 h, dc24 h, dc26 h, dc28 h, dc30 h, d_fails1, d_fails0, d_10, d_01, d_00, d_11, true_or, or_true, or_self, if_true, if_false, reduceIte, Option.elim_none, Option.elim_some, Option.bind_some, d_up_up, d_a0, d_a1, d_a7, d_a13, d_a21, d_a29, d_a35, d_a40, d_a75, d_a80, d_a115, d_a120, d_a155, d_a160, d_a195, d_r1, d_nI0, d_ix, d_cl, d_le, d_lt, d_eq, d_at, d_pt, if_false, if_true, Int32.add_zero, Option.bind_some, reduceIte, Nat.zero_add, Bool.and_eq_true, decide_eq_true_eq, decide_true, decide_false, Bool.and_true, Bool.true_and, Bool.false_and, Bool.and_false, Bool.true_eq_false, Bool.false_eq_true, false_and, and_false, true_and, and_true, d_n0, d_lef, false_or, or_false, or_self, false_and, not_true_eq_false, not_false_eq_true, ne_eq, not_true, not_false_iff, aB_0, aB_1]
    · have h0 := dM_726 h 0
      have hi2 : ∀ t : ga_M, v_X12_in b.toInt64 (0 : Int32).toInt64 (9 : Int32).toInt64 t = 1 := fun t => dm_inY (n := 10) (K := 9) (by omega) rfl ⟨7, by omega, e⟩
      rw [fe_X12_count]; unfold fb_X12_count
      simp only [hi2, d_fails1, d_fails0, d_10, d_01, d_00, d_11, true_or, or_true, or_self, if_true, if_false, reduceIte, Option.elim_none, Option.elim_some, Option.bind_some, d_up_up]
      generalize ga_up s 72 6 0 = u at h0 ⊢
      clear h
      have h := h0
      simp +decide (disch := omega) only [e, dm_openMany hN h, dmN h, dm7 h, dm13 h, dm21 h, dm29 h, dm35 h, dm75 h, dm115 h, dm155 h, dm195 h, dm0 h, dm40 h, dm80 h, dm120 h, dm160 h, d_fails1, d_fails0, d_10, d_01, d_00, d_11, true_or, or_true, or_self, if_true, if_false, reduceIte, Option.elim_none, Option.elim_some, Option.bind_some, d_up_up, d_a0, d_a1, d_a7, d_a13, d_a21, d_a29, d_a35, d_a40, d_a75, d_a80, d_a115, d_a120, d_a155, d_a160, d_a195, d_r1, d_nI0, d_ix, d_cl, d_le, d_lt, d_eq, d_at, d_pt, if_false, if_true, Int32.add_zero, Option.bind_some, reduceIte, Nat.zero_add, Bool.and_eq_true, decide_eq_true_eq, decide_true, decide_false, Bool.and_true, Bool.true_and, Bool.false_and, Bool.and_false, Bool.true_eq_false, Bool.false_eq_true, false_and, and_false, true_and, and_true, d_n0, d_lef, false_or, or_false, or_self, false_and, not_true_eq_false, not_false_eq_true, ne_eq, not_true, not_false_iff, aB_0, aB_1]
  · refine Or.inl ⟨dCt (fun k => decide (P 3 k = 1)) (N 6), fun s h => ?_, fun s h => ?_⟩
    · rw [e, fe_X11_count]; unfold fb_X11_count
      simp +decide (disch := omega) only [dc_super hN h, dcN h, dc3 h, dc5 h, dc7 h, dc9 h, dc11 h, dc13 h, dc15 h, dc17 h, dc19 h, dc22 h, dc24 h, dc26 h, dc28 h, dc30 h, d_fails1, d_fails0, d_10, d_01, d_00, d_11, true_or, or_true, or_self, if_true, if_false, reduceIte, Option.elim_none, Option.elim_some, Option.bind_some, d_up_up, d_a0, d_a1, d_a7, d_a13, d_a21, d_a29, d_a35, d_a40, d_a75, d_a80, d_a115, d_a120, d_a155, d_a160, d_a195, d_r1, d_nI0, d_ix, d_cl, d_le, d_lt, d_eq, d_at, d_pt, if_false, if_true, Int32.add_zero, Option.bind_some, reduceIte, Nat.zero_add, Bool.and_eq_true, decide_eq_true_eq, decide_true, decide_false, Bool.and_true, Bool.true_and, Bool.false_and, Bool.and_false, Bool.true_eq_false, Bool.false_eq_true, false_and, and_false, true_and, and_true, d_n0, d_lef, false_or, or_false, or_self, false_and, not_true_eq_false, not_false_eq_true, ne_eq, not_true, not_false_iff, aB_0, aB_1]
    · have h0 := dM_726 h 0
      have hi2 : ∀ t : ga_M, v_X12_in b.toInt64 (0 : Int32).toInt64 (9 : Int32).toInt64 t = 1 := fun t => dm_inY (n := 10) (K := 9) (by omega) rfl ⟨8, by omega, e⟩
      rw [fe_X12_count]; unfold fb_X12_count
      simp only [hi2, d_fails1, d_fails0, d_10, d_01, d_00, d_11, true_or, or_true, or_self, if_true, if_false, reduceIte, Option.elim_none, Option.elim_some, Option.bind_some, d_up_up]
      generalize ga_up s 72 6 0 = u at h0 ⊢
      clear h
      have h := h0
      simp +decide (disch := omega) only [e, dm_watchedMany hW h, dmN h, dm7 h, dm13 h, dm21 h, dm29 h, dm35 h, dm75 h, dm115 h, dm155 h, dm195 h, dm0 h, dm40 h, dm80 h, dm120 h, dm160 h, d_fails1, d_fails0, d_10, d_01, d_00, d_11, true_or, or_true, or_self, if_true, if_false, reduceIte, Option.elim_none, Option.elim_some, Option.bind_some, d_up_up, d_a0, d_a1, d_a7, d_a13, d_a21, d_a29, d_a35, d_a40, d_a75, d_a80, d_a115, d_a120, d_a155, d_a160, d_a195, d_r1, d_nI0, d_ix, d_cl, d_le, d_lt, d_eq, d_at, d_pt, if_false, if_true, Int32.add_zero, Option.bind_some, reduceIte, Nat.zero_add, Bool.and_eq_true, decide_eq_true_eq, decide_true, decide_false, Bool.and_true, Bool.true_and, Bool.false_and, Bool.and_false, Bool.true_eq_false, Bool.false_eq_true, false_and, and_false, true_and, and_true, d_n0, d_lef, false_or, or_false, or_self, false_and, not_true_eq_false, not_false_eq_true, ne_eq, not_true, not_false_iff, aB_0, aB_1]
  · refine Or.inl ⟨aDiffs N Q P, fun s h => ?_, fun s h => ?_⟩
    · rw [e, fe_X11_count]; unfold fb_X11_count
      simp +decide (disch := omega) only [dc_differing hN h, dcN h, dc3 h, dc5 h, dc7 h, dc9 h, dc11 h, dc13 h, dc15 h, dc17 h, dc19 h, dc22 h, dc24 h, dc26 h, dc28 h, dc30 h, d_fails1, d_fails0, d_10, d_01, d_00, d_11, true_or, or_true, or_self, if_true, if_false, reduceIte, Option.elim_none, Option.elim_some, Option.bind_some, d_up_up, d_a0, d_a1, d_a7, d_a13, d_a21, d_a29, d_a35, d_a40, d_a75, d_a80, d_a115, d_a120, d_a155, d_a160, d_a195, d_r1, d_nI0, d_ix, d_cl, d_le, d_lt, d_eq, d_at, d_pt, if_false, if_true, Int32.add_zero, Option.bind_some, reduceIte, Nat.zero_add, Bool.and_eq_true, decide_eq_true_eq, decide_true, decide_false, Bool.and_true, Bool.true_and, Bool.false_and, Bool.and_false, Bool.true_eq_false, Bool.false_eq_true, false_and, and_false, true_and, and_true, d_n0, d_lef, false_or, or_false, or_self, false_and, not_true_eq_false, not_false_eq_true, ne_eq, not_true, not_false_iff, aB_0, aB_1]
    · have h0 := dM_726 h 0
      have hi2 : ∀ t : ga_M, v_X12_in b.toInt64 (0 : Int32).toInt64 (9 : Int32).toInt64 t = 1 := fun t => dm_inY (n := 10) (K := 9) (by omega) rfl ⟨9, by omega, e⟩
      rw [fe_X12_count]; unfold fb_X12_count
      simp only [hi2, d_fails1, d_fails0, d_10, d_01, d_00, d_11, true_or, or_true, or_self, if_true, if_false, reduceIte, Option.elim_none, Option.elim_some, Option.bind_some, d_up_up]
      generalize ga_up s 72 6 0 = u at h0 ⊢
      clear h
      have h := h0
      simp +decide (disch := omega) only [e, dm_differences hN h, dmN h, dm7 h, dm13 h, dm21 h, dm29 h, dm35 h, dm75 h, dm115 h, dm155 h, dm195 h, dm0 h, dm40 h, dm80 h, dm120 h, dm160 h, d_fails1, d_fails0, d_10, d_01, d_00, d_11, true_or, or_true, or_self, if_true, if_false, reduceIte, Option.elim_none, Option.elim_some, Option.bind_some, d_up_up, d_a0, d_a1, d_a7, d_a13, d_a21, d_a29, d_a35, d_a40, d_a75, d_a80, d_a115, d_a120, d_a155, d_a160, d_a195, d_r1, d_nI0, d_ix, d_cl, d_le, d_lt, d_eq, d_at, d_pt, if_false, if_true, Int32.add_zero, Option.bind_some, reduceIte, Nat.zero_add, Bool.and_eq_true, decide_eq_true_eq, decide_true, decide_false, Bool.and_true, Bool.true_and, Bool.false_and, Bool.and_false, Bool.true_eq_false, Bool.false_eq_true, false_and, and_false, true_and, and_true, d_n0, d_lef, false_or, or_false, or_self, false_and, not_true_eq_false, not_false_eq_true, ne_eq, not_true, not_false_iff, aB_0, aB_1]
  · have hi2 : ∀ t : ga_M, v_X12_in b.toInt64 (0 : Int32).toInt64 (9 : Int32).toInt64 t = 0 := fun t => dm_inN (n := 10) (K := 9) (by omega) rfl hn
    have n0 : b ≠ 0 := hn 0 (by omega)
    have n1 : b ≠ 1 := hn 1 (by omega)
    have n2 : b ≠ 2 := hn 2 (by omega)
    have n3 : b ≠ 3 := hn 3 (by omega)
    have n4 : b ≠ 4 := hn 4 (by omega)
    have n5 : b ≠ 5 := hn 5 (by omega)
    have n6 : b ≠ 6 := hn 6 (by omega)
    have n7 : b ≠ 7 := hn 7 (by omega)
    have n8 : b ≠ 8 := hn 8 (by omega)
    have n9 : b ≠ 9 := hn 9 (by omega)
    refine Or.inr ⟨2, by decide, fun s h => ?_, fun s h => ⟨0, ?_⟩⟩
    · rw [fe_X11_count]; unfold fb_X11_count
      simp (disch := omega) only [n0, n1, n2, n3, n4, n5, n6, n7, n8, n9, d_fails1, d_fails0, d_10, d_01, d_00, d_11, true_or, or_true, or_self, if_true, if_false, reduceIte, Option.elim_none, Option.elim_some, Option.bind_some, d_up_up]
    · rw [fe_X12_count]; unfold fb_X12_count
      simp only [hi2, dK_a, dK_31, dK_32, dK_34, d_fails1, d_fails0, d_10, d_01, d_00, d_11, true_or, or_true, or_self, if_true, if_false, reduceIte, Option.elim_none, Option.elim_some, Option.bind_some, d_up_up]
end D20
