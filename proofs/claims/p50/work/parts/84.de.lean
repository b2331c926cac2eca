section D14
variable {N : Nat → Nat} {Q P : Nat → Nat → Int32} {s : ga_M}
theorem dFind_none {p : Nat → Bool} {M : Nat} (hM : M < 2147483648) : (dFind p M = -1) ↔ ∀ j, j < M → p j = false := by
  rcases dFind_spec p M with ⟨h1, h2⟩ | ⟨j, h1, h2, h3, h4⟩
  · exact ⟨fun _ => h2, fun _ => h1⟩
  · refine ⟨fun e => ?_, fun e => ?_⟩
    · rw [e] at h2; exact absurd h2.symm (d_ne1 (by omega))
    · rw [e j h1] at h3; cases h3
theorem dFind_some {p : Nat → Bool} {M : Nat} (hM : M < 2147483648) {k : Nat} (hk : k < M) (hp : p k = true) (hu : ∀ j, j < M → p j = true → j = k) : dFind p M = nI k := by
  rcases dFind_spec p M with ⟨h1, h2⟩ | ⟨j, h1, h2, h3, h4⟩
  · rw [h2 k hk] at hp; cases hp
  · rw [h2, hu j h1 h3]
theorem dWP_t (h : dWP N P) {i k : Nat} (hi : i < N 6) (hk : k < N 6) (h0 : P 0 i = P 0 k) (h1 : P 1 i ≠ -1) (e : P 1 i = P 1 k) : i = k := by
  by_cases c : i = k
  · exact c
  · exact absurd e (h.2.2.2.2.1 i k hi hk c h0 h1)
theorem dWP_r (h : dWP N P) {i k : Nat} (hi : i < N 6) (hk : k < N 6) (h0 : P 0 i = P 0 k) (e : P 2 i = P 2 k) : i = k := by
  by_cases c : i = k
  · exact c
  · exact absurd e (h.2.2.2.2.2 i k hi hk c h0)
/-- one lesson in a slot has it at most: then the first one tells whether there is a third -/
theorem aThird_with (hN : dWN N) {i l o : Nat} (hu : ∀ j k, j < N 6 → k < N 6 → P 0 j = P 0 k → P i j = P i l → P i k = P i l → j = k) (h0 : P 0 l ≠ P 0 o) (hl : l < N 6) (ho : o < N 6) :
    decide (aWith N P i (P i l) (P 0 o) (nI l) (nI o) = -1) = !aThird N P i l o := by
  have hB := dWN_b hN
  have hM : N 6 < 2147483648 := by omega
  unfold aThird aAt aWith
  rcases dFind_spec (fun k => decide (P 0 k = P 0 o) && decide (P i k = P i l)) (N 6) with ⟨h1, h2⟩ | ⟨j, h1, h2, h3, h4⟩
  · rw [h1]
    have : dFind (fun k => decide (P 0 k = P 0 o) && (decide (P i k = P i l) && (!decide (nI k = nI l) && !decide (nI k = nI o)))) (N 6) = -1 := by
      rw [dFind_none hM]
      intro j hj
      have := h2 j hj
      simp only [Bool.and_eq_false_iff, decide_eq_false_iff_not] at this ⊢
      rcases this with h | h
      · exact Or.inl h
      · exact Or.inr (Or.inl h)
    rw [this]; simp
  · rw [h2]
    simp only [Bool.and_eq_true, decide_eq_true_eq] at h3
    have hjl : nI j ≠ nI l := by
      intro e
      rw [nI_eq (by omega) (by omega)] at e
      subst e
      exact h0 h3.1
    have hj1 : nI j ≠ -1 := d_ne1 (by omega)
    by_cases hjo : j = o
    · subst hjo
      have : dFind (fun k => decide (P 0 k = P 0 j) && (decide (P i k = P i l) && (!decide (nI k = nI l) && !decide (nI k = nI j)))) (N 6) = -1 := by
        rw [dFind_none hM]
        intro k hk
        by_cases c1 : P 0 k = P 0 j
        · by_cases c2 : P i k = P i l
          · have := hu k j hk h1 c1 c2 h3.2
            subst this
            simp
          · simp [c2]
        · simp [c1]
      rw [this]; simp
    · have hjo2 : nI j ≠ nI o := by
        intro e
        rw [nI_eq (by omega) (by omega)] at e
        exact hjo e
      have : dFind (fun k => decide (P 0 k = P 0 o) && (decide (P i k = P i l) && (!decide (nI k = nI l) && !decide (nI k = nI o)))) (N 6) = nI j := by
        refine dFind_some hM h1 (by simp [h3.1, h3.2, hjl, hjo2]) (fun k hk hp => ?_)
        simp only [Bool.and_eq_true, decide_eq_true_eq] at hp
        exact hu k j hk h1 (by rw [hp.1, h3.1]) hp.2.1 h3.2
      rw [this]; simp [hj1, hjl, hjo2]
theorem dc_third_23 (hN : dWN N) (h : dC N Q P s) {l o : Nat} (hl : l < N 6) (ho : o < N 6) : f_X4_isHeldByThird_23 (nI l) (nI o) s = some (aB (aThird N P 1 l o)) := by
  have hB := dWN_b hN
  rw [fe_X4_isHeldByThird_23]; unfold fb_X4_isHeldByThird_23 aThird
  simp (disch := omega) only [dcN h, dc3 h, dc5 h, dc7 h, dc9 h, dc11 h, dc13 h, dc15 h, dc17 h, dc19 h, dc22 h, dc24 h, dc26 h, dc28 h, dc30 h, dc_lessonAt_23 hN h, d_a0, d_a1, d_a7, d_a13, d_a21, d_a29, d_a35, d_a40, d_a75, d_a80, d_a115, d_a120, d_a155, d_a160, d_a195, d_r1, d_nI0, d_ix, d_cl, d_le, d_lt, d_eq, d_at, d_pt, if_false, if_true, Int32.add_zero, Option.bind_some, reduceIte, Nat.zero_add, Bool.and_eq_true, decide_eq_true_eq, decide_true, decide_false, Bool.and_true, Bool.true_and, Bool.false_and, Bool.and_false, Bool.true_eq_false, Bool.false_eq_true, false_and, and_false, true_and, and_true, d_n0, d_lef, false_or, or_false, or_self, false_and, not_true_eq_false, not_false_eq_true, ne_eq, not_true, not_false_iff, aB_0, aB_1]
  generalize aAt N P 1 (P 0 o) (P 1 l) = x
  by_cases c1 : x = -1 <;> by_cases c2 : x = nI l <;> by_cases c3 : x = nI o <;> simp [c1, c2, c3, aB]
theorem dc_third_25 (hN : dWN N) (h : dC N Q P s) {l o : Nat} (hl : l < N 6) (ho : o < N 6) : f_X4_isHeldByThird_25 (nI l) (nI o) s = some (aB (aThird N P 2 l o)) := by
  have hB := dWN_b hN
  rw [fe_X4_isHeldByThird_25]; unfold fb_X4_isHeldByThird_25 aThird
  simp (disch := omega) only [dcN h, dc3 h, dc5 h, dc7 h, dc9 h, dc11 h, dc13 h, dc15 h, dc17 h, dc19 h, dc22 h, dc24 h, dc26 h, dc28 h, dc30 h, dc_lessonAt_25 hN h, d_a0, d_a1, d_a7, d_a13, d_a21, d_a29, d_a35, d_a40, d_a75, d_a80, d_a115, d_a120, d_a155, d_a160, d_a195, d_r1, d_nI0, d_ix, d_cl, d_le, d_lt, d_eq, d_at, d_pt, if_false, if_true, Int32.add_zero, Option.bind_some, reduceIte, Nat.zero_add, Bool.and_eq_true, decide_eq_true_eq, decide_true, decide_false, Bool.and_true, Bool.true_and, Bool.false_and, Bool.and_false, Bool.true_eq_false, Bool.false_eq_true, false_and, and_false, true_and, and_true, d_n0, d_lef, false_or, or_false, or_self, false_and, not_true_eq_false, not_false_eq_true, ne_eq, not_true, not_false_iff, aB_0, aB_1]
  generalize aAt N P 2 (P 0 o) (P 2 l) = x
  by_cases c1 : x = -1 <;> by_cases c2 : x = nI l <;> by_cases c3 : x = nI o <;> simp [c1, c2, c3, aB]
theorem dc_awayOf (hW : dW N Q P) (h : dC N Q P s) {l x : Nat} (hl : l < N 6) (hx : x < dSl N) (h1 : P 1 l ≠ -1) : f_X4_isTeacherAwayAt (nI l) (nI x) s = some (aB (dHb (P 4 (P 1 l).toNatClampNeg) (aDay N (nI x)))) := by
  have hN := hW.1
  have hB := dWN_b hN
  rcases hW.2.2.2.1 l hl with h2 | ⟨t, ht, et⟩
  · exact absurd h2 h1
  rw [fe_X4_isTeacherAwayAt]; unfold fb_X4_isTeacherAwayAt
  simp (disch := omega) only [dcN h, dc3 h, dc5 h, dc7 h, dc9 h, dc11 h, dc13 h, dc15 h, dc17 h, dc19 h, dc22 h, dc24 h, dc26 h, dc28 h, dc30 h, et, dc_isAwayAt hN h ht hx, d_a0, d_a1, d_a7, d_a13, d_a21, d_a29, d_a35, d_a40, d_a75, d_a80, d_a115, d_a120, d_a155, d_a160, d_a195, d_r1, d_nI0, d_ix, d_cl, d_le, d_lt, d_eq, d_at, d_pt, if_false, if_true, Int32.add_zero, Option.bind_some, reduceIte, Nat.zero_add, Bool.and_eq_true, decide_eq_true_eq, decide_true, decide_false, Bool.and_true, Bool.true_and, Bool.false_and, Bool.and_false, Bool.true_eq_false, Bool.false_eq_true, false_and, and_false, true_and, and_true, d_n0, d_lef, false_or, or_false, or_self, false_and, not_true_eq_false, not_false_eq_true, ne_eq, not_true, not_false_iff, aB_0, aB_1]
  rfl
theorem dc_againstExchange (hW : dW N Q P) (h : dC N Q P s) {l o : Nat} (hl : l < N 6) (ho : o < N 6) : f_X4_againstExchange (nI l) (nI o) s = some (aExch N Q P l o) := by
  have hN := hW.1
  have hB := dWN_b hN
  obtain ⟨x, hx, ex⟩ := hW.2.2.1 l hl
  obtain ⟨y, hy, ey⟩ := hW.2.2.1 o ho
  rw [fe_X4_againstExchange]; unfold fb_X4_againstExchange aExch
  by_cases c1 : P 1 l = -1
  · simp (disch := omega) only [dcN h, dc3 h, dc5 h, dc7 h, dc9 h, dc11 h, dc13 h, dc15 h, dc17 h, dc19 h, dc22 h, dc24 h, dc26 h, dc28 h, dc30 h, dc_isOpen hN h hl, c1, d_a0, d_a1, d_a7, d_a13, d_a21, d_a29, d_a35, d_a40, d_a75, d_a80, d_a115, d_a120, d_a155, d_a160, d_a195, d_r1, d_nI0, d_ix, d_cl, d_le, d_lt, d_eq, d_at, d_pt, if_false, if_true, Int32.add_zero, Option.bind_some, reduceIte, Nat.zero_add, Bool.and_eq_true, decide_eq_true_eq, decide_true, decide_false, Bool.and_true, Bool.true_and, Bool.false_and, Bool.and_false, Bool.true_eq_false, Bool.false_eq_true, false_and, and_false, true_and, and_true, d_n0, d_lef, false_or, or_false, or_self, false_and, not_true_eq_false, not_false_eq_true, ne_eq, not_true, not_false_iff, aB_0, aB_1]
    by_cases c2 : Q 5 l = Q 5 o <;> by_cases c3 : P 0 l = P 0 o <;> simp [c2, c3]
  by_cases c2 : P 1 o = -1
  · simp (disch := omega) only [dcN h, dc3 h, dc5 h, dc7 h, dc9 h, dc11 h, dc13 h, dc15 h, dc17 h, dc19 h, dc22 h, dc24 h, dc26 h, dc28 h, dc30 h, dc_isOpen hN h hl, dc_isOpen hN h ho, c1, c2, d_a0, d_a1, d_a7, d_a13, d_a21, d_a29, d_a35, d_a40, d_a75, d_a80, d_a115, d_a120, d_a155, d_a160, d_a195, d_r1, d_nI0, d_ix, d_cl, d_le, d_lt, d_eq, d_at, d_pt, if_false, if_true, Int32.add_zero, Option.bind_some, reduceIte, Nat.zero_add, Bool.and_eq_true, decide_eq_true_eq, decide_true, decide_false, Bool.and_true, Bool.true_and, Bool.false_and, Bool.and_false, Bool.true_eq_false, Bool.false_eq_true, false_and, and_false, true_and, and_true, d_n0, d_lef, false_or, or_false, or_self, false_and, not_true_eq_false, not_false_eq_true, ne_eq, not_true, not_false_iff, aB_0, aB_1]
    by_cases c2 : Q 5 l = Q 5 o <;> by_cases c3 : P 0 l = P 0 o <;> simp [c2, c3]
  simp (disch := omega) only [dcN h, dc3 h, dc5 h, dc7 h, dc9 h, dc11 h, dc13 h, dc15 h, dc17 h, dc19 h, dc22 h, dc24 h, dc26 h, dc28 h, dc30 h, dc_isOpen hN h hl, dc_isOpen hN h ho, c1, c2, ex, ey, dc_awayOf hW h hl hy c1, dc_awayOf hW h ho hx c2, dc_third_23 hN h hl ho, dc_third_23 hN h ho hl, dc_third_25 hN h hl ho, dc_third_25 hN h ho hl, d_a0, d_a1, d_a7, d_a13, d_a21, d_a29, d_a35, d_a40, d_a75, d_a80, d_a115, d_a120, d_a155, d_a160, d_a195, d_r1, d_nI0, d_ix, d_cl, d_le, d_lt, d_eq, d_at, d_pt, if_false, if_true, Int32.add_zero, Option.bind_some, reduceIte, Nat.zero_add, Bool.and_eq_true, decide_eq_true_eq, decide_true, decide_false, Bool.and_true, Bool.true_and, Bool.false_and, Bool.and_false, Bool.true_eq_false, Bool.false_eq_true, false_and, and_false, true_and, and_true, d_n0, d_lef, false_or, or_false, or_self, false_and, not_true_eq_false, not_false_eq_true, ne_eq, not_true, not_false_iff, aB_0, aB_1]
  generalize aThird N P 1 l o = b1
  generalize aThird N P 1 o l = b2
  generalize aThird N P 2 l o = b3
  generalize aThird N P 2 o l = b4
  generalize dHb (P 4 (P 1 l).toNatClampNeg) (aDay N (nI y)) = b5
  generalize dHb (P 4 (P 1 o).toNatClampNeg) (aDay N (nI x)) = b6
  by_cases c3 : Q 5 l = Q 5 o <;> by_cases c4 : x = y <;> simp [c3, c4] <;> cases b5 <;> cases b6 <;> cases b1 <;> cases b2 <;> cases b3 <;> cases b4 <;> rfl
theorem dc_againstMove (hW : dW N Q P) (h : dC N Q P s) {l x : Nat} (hl : l < N 6) (hx : x < dSl N) : f_X4_againstMove (nI l) (nI x) s = some (aMove N Q P l (nI x)) := by
  have hN := hW.1
  have hB := dWN_b hN
  rw [fe_X4_againstMove]; unfold fb_X4_againstMove aMove
  by_cases c1 : P 1 l = -1
  · simp (disch := omega) only [dcN h, dc3 h, dc5 h, dc7 h, dc9 h, dc11 h, dc13 h, dc15 h, dc17 h, dc19 h, dc22 h, dc24 h, dc26 h, dc28 h, dc30 h, dc_isOpen hN h hl, c1, dc_lessonAt_10 hN h, dc_lessonAt_25 hN h, d_a0, d_a1, d_a7, d_a13, d_a21, d_a29, d_a35, d_a40, d_a75, d_a80, d_a115, d_a120, d_a155, d_a160, d_a195, d_r1, d_nI0, d_ix, d_cl, d_le, d_lt, d_eq, d_at, d_pt, if_false, if_true, Int32.add_zero, Option.bind_some, reduceIte, Nat.zero_add, Bool.and_eq_true, decide_eq_true_eq, decide_true, decide_false, Bool.and_true, Bool.true_and, Bool.false_and, Bool.and_false, Bool.true_eq_false, Bool.false_eq_true, false_and, and_false, true_and, and_true, d_n0, d_lef, false_or, or_false, or_self, false_and, not_true_eq_false, not_false_eq_true, ne_eq, not_true, not_false_iff, aB_0, aB_1]
    by_cases c2 : P 0 l = nI x <;> by_cases c3 : aAtC N Q P (nI x) (Q 5 l) = -1 <;> by_cases c4 : aAt N P 2 (nI x) (P 2 l) = -1 <;> simp [c2, c3, c4]
  simp (disch := omega) only [dcN h, dc3 h, dc5 h, dc7 h, dc9 h, dc11 h, dc13 h, dc15 h, dc17 h, dc19 h, dc22 h, dc24 h, dc26 h, dc28 h, dc30 h, dc_isOpen hN h hl, c1, dc_awayOf hW h hl hx c1, dc_isBusy hN h, dc_lessonAt_10 hN h, dc_lessonAt_25 hN h, d_a0, d_a1, d_a7, d_a13, d_a21, d_a29, d_a35, d_a40, d_a75, d_a80, d_a115, d_a120, d_a155, d_a160, d_a195, d_r1, d_nI0, d_ix, d_cl, d_le, d_lt, d_eq, d_at, d_pt, if_false, if_true, Int32.add_zero, Option.bind_some, reduceIte, Nat.zero_add, Bool.and_eq_true, decide_eq_true_eq, decide_true, decide_false, Bool.and_true, Bool.true_and, Bool.false_and, Bool.and_false, Bool.true_eq_false, Bool.false_eq_true, false_and, and_false, true_and, and_true, d_n0, d_lef, false_or, or_false, or_self, false_and, not_true_eq_false, not_false_eq_true, ne_eq, not_true, not_false_iff, aB_0, aB_1]
  generalize dHb (P 4 (P 1 l).toNatClampNeg) _ = b5
  by_cases c2 : P 0 l = nI x <;> by_cases c3 : aAtC N Q P (nI x) (Q 5 l) = -1 <;> by_cases c4 : aAt N P 2 (nI x) (P 2 l) = -1 <;> by_cases c5 : aAt N P 1 (nI x) (P 1 l) = -1 <;> cases b5 <;> simp [c2, c3, c4, c5]
theorem dc_againstRoom (hW : dW N Q P) (h : dC N Q P s) {l r : Nat} (hl : l < N 6) (hr : r < N 4) : f_X4_againstRoom (nI l) (nI r) s = some (aRoom N Q P l r) := by
  have hN := hW.1
  have hB := dWN_b hN
  obtain ⟨j, hj, ej⟩ := hW.2.1.1 l hl
  rw [fe_X4_againstRoom]; unfold fb_X4_againstRoom aRoom
  simp (disch := omega) only [dcN h, dc3 h, dc5 h, dc7 h, dc9 h, dc11 h, dc13 h, dc15 h, dc17 h, dc19 h, dc22 h, dc24 h, dc26 h, dc28 h, dc30 h, ej, dc_lessonAt_25 hN h, d_a0, d_a1, d_a7, d_a13, d_a21, d_a29, d_a35, d_a40, d_a75, d_a80, d_a115, d_a120, d_a155, d_a160, d_a195, d_r1, d_nI0, d_ix, d_cl, d_le, d_lt, d_eq, d_at, d_pt, if_false, if_true, Int32.add_zero, Option.bind_some, reduceIte, Nat.zero_add, Bool.and_eq_true, decide_eq_true_eq, decide_true, decide_false, Bool.and_true, Bool.true_and, Bool.false_and, Bool.and_false, Bool.true_eq_false, Bool.false_eq_true, false_and, and_false, true_and, and_true, d_n0, d_lef, false_or, or_false, or_self, false_and, not_true_eq_false, not_false_eq_true, ne_eq, not_true, not_false_iff, aB_0, aB_1]
  by_cases c2 : P 2 l = nI r <;> by_cases c3 : Q 4 r = Q 1 j <;> by_cases c4 : aAt N P 2 (P 0 l) (nI r) = -1 <;> simp [c2, c3, c4]
end D14
