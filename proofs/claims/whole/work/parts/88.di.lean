section D18
variable {N : Nat → Nat} {Q P : Nat → Nat → Int32} {s : ga_M}
theorem d_or0 (x : Int32) : x ||| 0 = x := by simp
theorem q_candidates (hW : dW N Q P) (a : Int32) : dQc N Q P (f_X11_candidates a) (f_X12_candidates a) (dK 3 3) := by
  have hN := hW.1
  have hB := dWN_b hN
  rcases d_in a (N 6) (by omega) with ⟨i, hi, rfl⟩ | ⟨_, hn⟩
  · refine Or.inl ⟨dMs (fun k => decide (aCover N Q P i k = 0)) (N 3), fun s h => ?_, fun s h => ?_⟩
    · rw [fe_X11_candidates]; unfold fb_X11_candidates
      simp only [cL_y hN h hi, d_fails1, d_fails0, d_10, d_01, d_00, d_11, true_or, or_true, or_self, if_true, if_false, reduceIte, Option.elim_none, Option.elim_some, Option.bind_some, d_up_up]
      refine (d_fold0 (F := fun n k a => f_X11_candidates_h9 n (nI i) a (nI k) s) (f := dMf (fun k => decide (aCover N Q P i k = 0))) (g := fun a => some (.inl a)) (N := N 3) (by omega) (fun n k a hk => ?_) (fun n a => ?_) 0)
      · simp (disch := omega) only [f_X11_candidates_h9, dcN h, dc3 h, dc5 h, dc7 h, dc9 h, dc11 h, dc13 h, dc15 h, dc17 h, dc19 h, dc22 h, dc24 h, dc26 h, dc28 h, dc30 h, dc_againstCover hW h hi hk, d_a0, d_a1, d_a7, d_a13, d_a21, d_a29, d_a35, d_a40, d_a75, d_a80, d_a115, d_a120, d_a155, d_a160, d_a195, d_r1, d_nI0, d_ix, d_cl, d_le, d_lt, d_eq, d_at, d_pt, if_false, if_true, Int32.add_zero, Option.bind_some, reduceIte, Nat.zero_add, Bool.and_eq_true, decide_eq_true_eq, decide_true, decide_false, Bool.and_true, Bool.true_and, Bool.false_and, Bool.and_false, Bool.true_eq_false, Bool.false_eq_true, false_and, and_false, true_and, and_true, d_n0, d_lef, false_or, or_false, or_self, false_and, not_true_eq_false, not_false_eq_true, ne_eq, not_true, not_false_iff, aB_0, aB_1]
        by_cases c1 : aCover N Q P i k = 0 <;> simp [c1, dMf]
      · simp (disch := omega) only [f_X11_candidates_h9, dcN h, dc3 h, dc5 h, dc7 h, dc9 h, dc11 h, dc13 h, dc15 h, dc17 h, dc19 h, dc22 h, dc24 h, dc26 h, dc28 h, dc30 h]
        rw [if_pos (nI_le (Nat.le_refl _) (by omega))]
    · have h0 := dM_726 h 0
      rw [fe_X12_candidates]; unfold fb_X12_candidates
      simp only [mL_y hN h hi, d_fails1, d_fails0, d_10, d_01, d_00, d_11, true_or, or_true, or_self, if_true, if_false, reduceIte, Option.elim_none, Option.elim_some, Option.bind_some, d_up_up]
      generalize ga_up s 72 6 0 = u at h0 ⊢
      clear h
      have h := h0
      refine (d_fold0 (F := fun n k a => f_X12_candidates_h27 n (nI i) a (nI k) u) (f := dMf (fun k => decide (aCover N Q P i k = 0))) (g := fun a => some (a, u)) (N := N 3) (by omega) (fun n k a hk => ?_) (fun n a => ?_) 0)
      · simp (disch := omega) only [f_X12_candidates_h27, dmN h, dm7 h, dm13 h, dm21 h, dm29 h, dm35 h, dm75 h, dm115 h, dm155 h, dm195 h, dm0 h, dm40 h, dm80 h, dm120 h, dm160 h, dm_againstCover hW h hi hk, d_a0, d_a1, d_a7, d_a13, d_a21, d_a29, d_a35, d_a40, d_a75, d_a80, d_a115, d_a120, d_a155, d_a160, d_a195, d_r1, d_nI0, d_ix, d_cl, d_le, d_lt, d_eq, d_at, d_pt, if_false, if_true, Int32.add_zero, Option.bind_some, reduceIte, Nat.zero_add, Bool.and_eq_true, decide_eq_true_eq, decide_true, decide_false, Bool.and_true, Bool.true_and, Bool.false_and, Bool.and_false, Bool.true_eq_false, Bool.false_eq_true, false_and, and_false, true_and, and_true, d_n0, d_lef, false_or, or_false, or_self, false_and, not_true_eq_false, not_false_eq_true, ne_eq, not_true, not_false_iff, aB_0, aB_1]
        by_cases c1 : aCover N Q P i k = 0 <;> simp [c1, dMf]
      · simp (disch := omega) only [f_X12_candidates_h27, dmN h, dm7 h, dm13 h, dm21 h, dm29 h, dm35 h, dm75 h, dm115 h, dm155 h, dm195 h, dm0 h, dm40 h, dm80 h, dm120 h, dm160 h]
        rw [if_pos (nI_le (Nat.le_refl _) (by omega))]
  · refine Or.inr ⟨3, by decide, fun s h => ?_, fun s h => ⟨0, ?_⟩⟩
    · rw [fe_X11_candidates]; unfold fb_X11_candidates
      simp only [cL_n hN h hn, d_fails1, d_fails0, d_10, d_01, d_00, d_11, true_or, or_true, or_self, if_true, if_false, reduceIte, Option.elim_none, Option.elim_some, Option.bind_some, d_up_up]
    · rw [fe_X12_candidates]; unfold fb_X12_candidates
      simp only [mL_n hN h hn, dK_a, dK_31, dK_32, dK_34, d_fails1, d_fails0, d_10, d_01, d_00, d_11, true_or, or_true, or_self, if_true, if_false, reduceIte, Option.elim_none, Option.elim_some, Option.bind_some, d_up_up]
theorem q_slotsFor (hW : dW N Q P) (a : Int32) : dQc N Q P (f_X11_slotsFor a) (f_X12_slotsFor a) (dK 3 3) := by
  have hN := hW.1
  have hB := dWN_b hN
  rcases d_in a (N 6) (by omega) with ⟨i, hi, rfl⟩ | ⟨_, hn⟩
  · refine Or.inl ⟨dMs (fun k => decide (aMove N Q P i (nI k) = 0)) (dSl N), fun s h => ?_, fun s h => ?_⟩
    · rw [fe_X11_slotsFor]; unfold fb_X11_slotsFor
      simp only [cL_y hN h hi, d_fails1, d_fails0, d_10, d_01, d_00, d_11, true_or, or_true, or_self, if_true, if_false, reduceIte, Option.elim_none, Option.elim_some, Option.bind_some, d_up_up]
      refine (d_fold0 (F := fun n k a => f_X11_slotsFor_h9 n (nI i) a (nI k) s) (f := dMf (fun k => decide (aMove N Q P i (nI k) = 0))) (g := fun a => some (.inl a)) (N := dSl N) (by omega) (fun n k a hk => ?_) (fun n a => ?_) 0)
      · simp (disch := omega) only [f_X11_slotsFor_h9, dcN h, dc3 h, dc5 h, dc7 h, dc9 h, dc11 h, dc13 h, dc15 h, dc17 h, dc19 h, dc22 h, dc24 h, dc26 h, dc28 h, dc30 h, dc_slots h, dc_againstMove hW h hi hk, d_a0, d_a1, d_a7, d_a13, d_a21, d_a29, d_a35, d_a40, d_a75, d_a80, d_a115, d_a120, d_a155, d_a160, d_a195, d_r1, d_nI0, d_ix, d_cl, d_le, d_lt, d_eq, d_at, d_pt, if_false, if_true, Int32.add_zero, Option.bind_some, reduceIte, Nat.zero_add, Bool.and_eq_true, decide_eq_true_eq, decide_true, decide_false, Bool.and_true, Bool.true_and, Bool.false_and, Bool.and_false, Bool.true_eq_false, Bool.false_eq_true, false_and, and_false, true_and, and_true, d_n0, d_lef, false_or, or_false, or_self, false_and, not_true_eq_false, not_false_eq_true, ne_eq, not_true, not_false_iff, aB_0, aB_1]
        by_cases c1 : aMove N Q P i (nI k) = 0 <;> simp [c1, dMf]
      · simp (disch := omega) only [f_X11_slotsFor_h9, dcN h, dc3 h, dc5 h, dc7 h, dc9 h, dc11 h, dc13 h, dc15 h, dc17 h, dc19 h, dc22 h, dc24 h, dc26 h, dc28 h, dc30 h, dc_slots h]
        rw [if_pos (nI_le (Nat.le_refl _) (by omega))]
    · have h0 := dM_726 h 0
      rw [fe_X12_slotsFor]; unfold fb_X12_slotsFor
      simp only [mL_y hN h hi, d_fails1, d_fails0, d_10, d_01, d_00, d_11, true_or, or_true, or_self, if_true, if_false, reduceIte, Option.elim_none, Option.elim_some, Option.bind_some, d_up_up]
      generalize ga_up s 72 6 0 = u at h0 ⊢
      clear h
      have h := h0
      refine (d_fold0 (F := fun n k a => f_X12_slotsFor_h27 n (nI i) a (nI k) u) (f := dMf (fun k => decide (aMove N Q P i (nI k) = 0))) (g := fun a => some (a, u)) (N := dSl N) (by omega) (fun n k a hk => ?_) (fun n a => ?_) 0)
      · simp (disch := omega) only [f_X12_slotsFor_h27, dmN h, dm7 h, dm13 h, dm21 h, dm29 h, dm35 h, dm75 h, dm115 h, dm155 h, dm195 h, dm0 h, dm40 h, dm80 h, dm120 h, dm160 h, dm_slots h, dm_againstMove hW h hi, d_a0, d_a1, d_a7, d_a13, d_a21, d_a29, d_a35, d_a40, d_a75, d_a80, d_a115, d_a120, d_a155, d_a160, d_a195, d_r1, d_nI0, d_ix, d_cl, d_le, d_lt, d_eq, d_at, d_pt, if_false, if_true, Int32.add_zero, Option.bind_some, reduceIte, Nat.zero_add, Bool.and_eq_true, decide_eq_true_eq, decide_true, decide_false, Bool.and_true, Bool.true_and, Bool.false_and, Bool.and_false, Bool.true_eq_false, Bool.false_eq_true, false_and, and_false, true_and, and_true, d_n0, d_lef, false_or, or_false, or_self, false_and, not_true_eq_false, not_false_eq_true, ne_eq, not_true, not_false_iff, aB_0, aB_1]
        by_cases c1 : aMove N Q P i (nI k) = 0 <;> simp [c1, dMf]
      · simp (disch := omega) only [f_X12_slotsFor_h27, dmN h, dm7 h, dm13 h, dm21 h, dm29 h, dm35 h, dm75 h, dm115 h, dm155 h, dm195 h, dm0 h, dm40 h, dm80 h, dm120 h, dm160 h, dm_slots h]
        rw [if_pos (nI_le (Nat.le_refl _) (by omega))]
  · refine Or.inr ⟨3, by decide, fun s h => ?_, fun s h => ⟨0, ?_⟩⟩
    · rw [fe_X11_slotsFor]; unfold fb_X11_slotsFor
      simp only [cL_n hN h hn, d_fails1, d_fails0, d_10, d_01, d_00, d_11, true_or, or_true, or_self, if_true, if_false, reduceIte, Option.elim_none, Option.elim_some, Option.bind_some, d_up_up]
    · rw [fe_X12_slotsFor]; unfold fb_X12_slotsFor
      simp only [mL_n hN h hn, dK_a, dK_31, dK_32, dK_34, d_fails1, d_fails0, d_10, d_01, d_00, d_11, true_or, or_true, or_self, if_true, if_false, reduceIte, Option.elim_none, Option.elim_some, Option.bind_some, d_up_up]
theorem q_freeTeachers (hW : dW N Q P) (a : Int32) : dQc N Q P (f_X11_freeTeachers a) (f_X12_freeTeachers a) (dK 3 3) := by
  have hN := hW.1
  have hB := dWN_b hN
  rcases d_in a (dSl N) (by omega) with ⟨i, hi, rfl⟩ | ⟨_, hn⟩
  · refine Or.inl ⟨dMs (fun k => !aAway N P k (nI i) && decide (aAt N P 1 (nI i) (nI k) = -1)) (N 3), fun s h => ?_, fun s h => ?_⟩
    · rw [fe_X11_freeTeachers]; unfold fb_X11_freeTeachers
      simp only [cS_y hN h hi, d_fails1, d_fails0, d_10, d_01, d_00, d_11, true_or, or_true, or_self, if_true, if_false, reduceIte, Option.elim_none, Option.elim_some, Option.bind_some, d_up_up]
      refine (d_fold0 (F := fun n k a => f_X11_freeTeachers_h9 n (nI i) a (nI k) s) (f := dMf (fun k => !aAway N P k (nI i) && decide (aAt N P 1 (nI i) (nI k) = -1))) (g := fun a => some (.inl a)) (N := N 3) (by omega) (fun n k a hk => ?_) (fun n a => ?_) 0)
      · simp (disch := omega) only [f_X11_freeTeachers_h9, dcN h, dc3 h, dc5 h, dc7 h, dc9 h, dc11 h, dc13 h, dc15 h, dc17 h, dc19 h, dc22 h, dc24 h, dc26 h, dc28 h, dc30 h, dc_isAwayAt hN h hk hi, dc_lessonAt_23 hN h, d_a0, d_a1, d_a7, d_a13, d_a21, d_a29, d_a35, d_a40, d_a75, d_a80, d_a115, d_a120, d_a155, d_a160, d_a195, d_r1, d_nI0, d_ix, d_cl, d_le, d_lt, d_eq, d_at, d_pt, if_false, if_true, Int32.add_zero, Option.bind_some, reduceIte, Nat.zero_add, Bool.and_eq_true, decide_eq_true_eq, decide_true, decide_false, Bool.and_true, Bool.true_and, Bool.false_and, Bool.and_false, Bool.true_eq_false, Bool.false_eq_true, false_and, and_false, true_and, and_true, d_n0, d_lef, false_or, or_false, or_self, false_and, not_true_eq_false, not_false_eq_true, ne_eq, not_true, not_false_iff, aB_0, aB_1]
        cases c0 : aAway N P k (nI i) <;> by_cases c1 : aAt N P 1 (nI i) (nI k) = -1 <;> simp [c0, c1, dMf]
      · simp (disch := omega) only [f_X11_freeTeachers_h9, dcN h, dc3 h, dc5 h, dc7 h, dc9 h, dc11 h, dc13 h, dc15 h, dc17 h, dc19 h, dc22 h, dc24 h, dc26 h, dc28 h, dc30 h]
        rw [if_pos (nI_le (Nat.le_refl _) (by omega))]
    · have h0 := dM_726 h 0
      rw [fe_X12_freeTeachers]; unfold fb_X12_freeTeachers
      simp only [mS_y hN h hi, d_fails1, d_fails0, d_10, d_01, d_00, d_11, true_or, or_true, or_self, if_true, if_false, reduceIte, Option.elim_none, Option.elim_some, Option.bind_some, d_up_up]
      generalize ga_up s 72 6 0 = u at h0 ⊢
      clear h
      have h := h0
      refine (d_fold0 (F := fun n k a => f_X12_freeTeachers_h27 n (nI i) a (nI k) u) (f := dMf (fun k => !aAway N P k (nI i) && decide (aAt N P 1 (nI i) (nI k) = -1))) (g := fun a => some (a, u)) (N := N 3) (by omega) (fun n k a hk => ?_) (fun n a => ?_) 0)
      · simp (disch := omega) only [f_X12_freeTeachers_h27, dmN h, dm7 h, dm13 h, dm21 h, dm29 h, dm35 h, dm75 h, dm115 h, dm155 h, dm195 h, dm0 h, dm40 h, dm80 h, dm120 h, dm160 h, dm_isAbsent hN h hk, dm_ofTeacher2 hN h, d_a0, d_a1, d_a7, d_a13, d_a21, d_a29, d_a35, d_a40, d_a75, d_a80, d_a115, d_a120, d_a155, d_a160, d_a195, d_r1, d_nI0, d_ix, d_cl, d_le, d_lt, d_eq, d_at, d_pt, if_false, if_true, Int32.add_zero, Option.bind_some, reduceIte, Nat.zero_add, Bool.and_eq_true, decide_eq_true_eq, decide_true, decide_false, Bool.and_true, Bool.true_and, Bool.false_and, Bool.and_false, Bool.true_eq_false, Bool.false_eq_true, false_and, and_false, true_and, and_true, d_n0, d_lef, false_or, or_false, or_self, false_and, not_true_eq_false, not_false_eq_true, ne_eq, not_true, not_false_iff, aB_0, aB_1]
        cases c0 : aAway N P k (nI i) <;> by_cases c1 : aAt N P 1 (nI i) (nI k) = -1 <;> simp [c0, c1, dMf]
      · simp (disch := omega) only [f_X12_freeTeachers_h27, dmN h, dm7 h, dm13 h, dm21 h, dm29 h, dm35 h, dm75 h, dm115 h, dm155 h, dm195 h, dm0 h, dm40 h, dm80 h, dm120 h, dm160 h]
        rw [if_pos (nI_le (Nat.le_refl _) (by omega))]
  · refine Or.inr ⟨3, by decide, fun s h => ?_, fun s h => ⟨0, ?_⟩⟩
    · rw [fe_X11_freeTeachers]; unfold fb_X11_freeTeachers
      simp only [cS_n hN h hn, d_fails1, d_fails0, d_10, d_01, d_00, d_11, true_or, or_true, or_self, if_true, if_false, reduceIte, Option.elim_none, Option.elim_some, Option.bind_some, d_up_up]
    · rw [fe_X12_freeTeachers]; unfold fb_X12_freeTeachers
      simp only [mS_n hN h hn, dK_a, dK_31, dK_32, dK_34, d_fails1, d_fails0, d_10, d_01, d_00, d_11, true_or, or_true, or_self, if_true, if_false, reduceIte, Option.elim_none, Option.elim_some, Option.bind_some, d_up_up]
theorem aExch_le {l o : Nat} : (aExch N Q P l o ≤ 0) = (aExch N Q P l o = 0) := by
  unfold aExch
  repeat' split
  all_goals decide
theorem dm_partners (hW : dW N Q P) (h : dM N Q P s) {i : Nat} (hi : i < N 6) : f_X12_partnerOf (nI i) 0 s = some (dCt (fun k => decide (aExch N Q P i k = 0)) (N 6)) := by
  have hN := hW.1
  have hB := dWN_b hN
  rw [fe_X12_partnerOf]
  refine (d_fold0 (F := fun n k a => f_X12_partnerOf_h5 n (nI i) 0 a (nI k) s) (f := dCf (fun k => decide (aExch N Q P i k = 0))) (g := some) (N := N 6) (by omega) (fun n k a hk => ?_) (fun n a => ?_) 0)
  · simp (disch := omega) only [f_X12_partnerOf_h5, dmN h, dm7 h, dm13 h, dm21 h, dm29 h, dm35 h, dm75 h, dm115 h, dm155 h, dm195 h, dm0 h, dm40 h, dm80 h, dm120 h, dm160 h, dm_againstExchange hW h hi hk, aExch_le, d_a0, d_a1, d_a7, d_a13, d_a21, d_a29, d_a35, d_a40, d_a75, d_a80, d_a115, d_a120, d_a155, d_a160, d_a195, d_r1, d_nI0, d_ix, d_cl, d_le, d_lt, d_eq, d_at, d_pt, if_false, if_true, Int32.add_zero, Option.bind_some, reduceIte, Nat.zero_add, Bool.and_eq_true, decide_eq_true_eq, decide_true, decide_false, Bool.and_true, Bool.true_and, Bool.false_and, Bool.and_false, Bool.true_eq_false, Bool.false_eq_true, false_and, and_false, true_and, and_true, d_n0, d_lef, false_or, or_false, or_self, false_and, not_true_eq_false, not_false_eq_true, ne_eq, not_true, not_false_iff, aB_0, aB_1]
    by_cases c1 : aExch N Q P i k = 0 <;> simp [c1, dCf]
  · simp (disch := omega) only [f_X12_partnerOf_h5, dmN h, dm7 h, dm13 h, dm21 h, dm29 h, dm35 h, dm75 h, dm115 h, dm155 h, dm195 h, dm0 h, dm40 h, dm80 h, dm120 h, dm160 h, d_00, if_true]
    rw [if_pos (nI_le (Nat.le_refl _) (by omega))]
theorem dm_firstPartner (hW : dW N Q P) (h : dM N Q P s) {i : Nat} (hi : i < N 6) : f_X12_partnerOf (nI i) 1 s = some (dFind (fun k => decide (aExch N Q P i k = 0)) (N 6)) := by
  have hN := hW.1
  have hB := dWN_b hN
  rw [fe_X12_partnerOf]
  refine d_find0 (F := fun n k => f_X12_partnerOf_h5 n (nI i) 1 0 (nI k) s) (N := N 6) (by omega) (fun n k hk => ?_) (fun n => ?_)
  · simp (disch := omega) only [f_X12_partnerOf_h5, dmN h, dm7 h, dm13 h, dm21 h, dm29 h, dm35 h, dm75 h, dm115 h, dm155 h, dm195 h, dm0 h, dm40 h, dm80 h, dm120 h, dm160 h, dm_againstExchange hW h hi hk, aExch_le, d_10, d_a0, d_a1, d_a7, d_a13, d_a21, d_a29, d_a35, d_a40, d_a75, d_a80, d_a115, d_a120, d_a155, d_a160, d_a195, d_r1, d_nI0, d_ix, d_cl, d_le, d_lt, d_eq, d_at, d_pt, if_false, if_true, Int32.add_zero, Option.bind_some, reduceIte, Nat.zero_add, Bool.and_eq_true, decide_eq_true_eq, decide_true, decide_false, Bool.and_true, Bool.true_and, Bool.false_and, Bool.and_false, Bool.true_eq_false, Bool.false_eq_true, false_and, and_false, true_and, and_true, d_n0, d_lef, false_or, or_false, or_self, false_and, not_true_eq_false, not_false_eq_true, ne_eq, not_true, not_false_iff, aB_0, aB_1]
  · simp (disch := omega) only [f_X12_partnerOf_h5, dmN h, dm7 h, dm13 h, dm21 h, dm29 h, dm35 h, dm75 h, dm115 h, dm155 h, dm195 h, dm0 h, dm40 h, dm80 h, dm120 h, dm160 h, d_10, if_false]
    rw [if_pos (nI_le (Nat.le_refl _) (by omega))]
theorem q_partners (hW : dW N Q P) (a : Int32) : dQc N Q P (f_X11_partners a) (f_X12_partners a) (dK 3 3) := by
  have hN := hW.1
  have hB := dWN_b hN
  rcases d_in a (N 6) (by omega) with ⟨i, hi, rfl⟩ | ⟨_, hn⟩
  · refine Or.inl ⟨dCt (fun k => decide (aExch N Q P i k = 0)) (N 6), fun s h => ?_, fun s h => ?_⟩
    · rw [fe_X11_partners]; unfold fb_X11_partners
      simp only [cL_y hN h hi, d_fails1, d_fails0, d_10, d_01, d_00, d_11, true_or, or_true, or_self, if_true, if_false, reduceIte, Option.elim_none, Option.elim_some, Option.bind_some, d_up_up]
      refine (d_fold0 (F := fun n k a => f_X11_partners_h9 n (nI i) a (nI k) s) (f := dCf (fun k => decide (aExch N Q P i k = 0))) (g := fun a => some (.inl a)) (N := N 6) (by omega) (fun n k a hk => ?_) (fun n a => ?_) 0)
      · simp (disch := omega) only [f_X11_partners_h9, dcN h, dc3 h, dc5 h, dc7 h, dc9 h, dc11 h, dc13 h, dc15 h, dc17 h, dc19 h, dc22 h, dc24 h, dc26 h, dc28 h, dc30 h, dc_againstExchange hW h hi hk, d_a0, d_a1, d_a7, d_a13, d_a21, d_a29, d_a35, d_a40, d_a75, d_a80, d_a115, d_a120, d_a155, d_a160, d_a195, d_r1, d_nI0, d_ix, d_cl, d_le, d_lt, d_eq, d_at, d_pt, if_false, if_true, Int32.add_zero, Option.bind_some, reduceIte, Nat.zero_add, Bool.and_eq_true, decide_eq_true_eq, decide_true, decide_false, Bool.and_true, Bool.true_and, Bool.false_and, Bool.and_false, Bool.true_eq_false, Bool.false_eq_true, false_and, and_false, true_and, and_true, d_n0, d_lef, false_or, or_false, or_self, false_and, not_true_eq_false, not_false_eq_true, ne_eq, not_true, not_false_iff, aB_0, aB_1]
        by_cases c1 : aExch N Q P i k = 0 <;> simp [c1, dCf]
      · simp (disch := omega) only [f_X11_partners_h9, dcN h, dc3 h, dc5 h, dc7 h, dc9 h, dc11 h, dc13 h, dc15 h, dc17 h, dc19 h, dc22 h, dc24 h, dc26 h, dc28 h, dc30 h]
        rw [if_pos (nI_le (Nat.le_refl _) (by omega))]
    · have h0 := dM_726 h 0
      rw [fe_X12_partners]; unfold fb_X12_partners
      simp only [mL_y hN h hi, d_fails1, d_fails0, d_10, d_01, d_00, d_11, true_or, or_true, or_self, if_true, if_false, reduceIte, Option.elim_none, Option.elim_some, Option.bind_some, d_up_up]
      generalize ga_up s 72 6 0 = u at h0 ⊢
      clear h
      have h := h0
      simp only [dm_partners hW h hi, d_fails1, d_fails0, d_10, d_01, d_00, d_11, true_or, or_true, or_self, if_true, if_false, reduceIte, Option.elim_none, Option.elim_some, Option.bind_some, d_up_up]
  · refine Or.inr ⟨3, by decide, fun s h => ?_, fun s h => ⟨0, ?_⟩⟩
    · rw [fe_X11_partners]; unfold fb_X11_partners
      simp only [cL_n hN h hn, d_fails1, d_fails0, d_10, d_01, d_00, d_11, true_or, or_true, or_self, if_true, if_false, reduceIte, Option.elim_none, Option.elim_some, Option.bind_some, d_up_up]
    · rw [fe_X12_partners]; unfold fb_X12_partners
      simp only [mL_n hN h hn, dK_a, dK_31, dK_32, dK_34, d_fails1, d_fails0, d_10, d_01, d_00, d_11, true_or, or_true, or_self, if_true, if_false, reduceIte, Option.elim_none, Option.elim_some, Option.bind_some, d_up_up]
theorem dc_findS {F : Nat → Nat → Option (Int32 ⊕ Nat)} {p : Nat → Bool} {N e : Nat} (hN : N < 2147483648) (hs : ∀ n k, k < N → F (n + 1) k = if p k = true then some (.inl (nI k)) else F n (k + 1)) (he : ∀ n, F (n + 1) N = some (.inr e)) :
    ∀ m k n, k + m = N → m < n → F n k = some (if dR p m k = -1 then .inr e else .inl (dR p m k)) := by
  intro m
  induction m with
  | zero =>
    intro k n hk hn
    obtain ⟨n, rfl⟩ : ∃ j, n = j + 1 := ⟨n - 1, by omega⟩
    have : k = N := by omega
    subst this
    exact he n
  | succ m ih =>
    intro k n hk hn
    obtain ⟨n, rfl⟩ : ∃ j, n = j + 1 := ⟨n - 1, by omega⟩
    rw [hs n k (by omega)]
    by_cases hp : p k = true
    · rw [if_pos hp, dR, if_pos hp]
      rw [if_neg (d_ne1 (by omega))]
    · rw [if_neg hp, dR, if_neg hp]
      exact ih (k + 1) n (by omega) (by omega)
theorem q_firstPartner (hW : dW N Q P) (a : Int32) : dQc N Q P (f_X11_firstPartner a) (f_X12_firstPartner a) (dK 3 4) := by
  have hN := hW.1
  have hB := dWN_b hN
  rcases d_in a (N 6) (by omega) with ⟨i, hi, rfl⟩ | ⟨_, hn⟩
  · have hc : ∀ s, dC N Q P s → f_X11_firstPartner (nI i) s = some (if dFind (fun k => decide (aExch N Q P i k = 0)) (N 6) = -1 then .inr 4 else .inl (dFind (fun k => decide (aExch N Q P i k = 0)) (N 6))) := fun s h => by
      rw [fe_X11_firstPartner]; unfold fb_X11_firstPartner
      simp only [cL_y hN h hi, d_fails1, d_fails0, d_10, d_01, d_00, d_11, true_or, or_true, or_self, if_true, if_false, reduceIte, Option.elim_none, Option.elim_some, Option.bind_some, d_up_up]
      refine dc_findS (F := fun n k => f_X11_firstPartner_h7 n (nI i) (nI k) s) (N := N 6) (by omega) (fun n k hk => ?_) (fun n => ?_) (N 6) 0 ga_fuel (by omega) (d_fuel (by omega))
      · simp (disch := omega) only [f_X11_firstPartner_h7, dcN h, dc3 h, dc5 h, dc7 h, dc9 h, dc11 h, dc13 h, dc15 h, dc17 h, dc19 h, dc22 h, dc24 h, dc26 h, dc28 h, dc30 h, dc_againstExchange hW h hi hk, d_a0, d_a1, d_a7, d_a13, d_a21, d_a29, d_a35, d_a40, d_a75, d_a80, d_a115, d_a120, d_a155, d_a160, d_a195, d_r1, d_nI0, d_ix, d_cl, d_le, d_lt, d_eq, d_at, d_pt, if_false, if_true, Int32.add_zero, Option.bind_some, reduceIte, Nat.zero_add, Bool.and_eq_true, decide_eq_true_eq, decide_true, decide_false, Bool.and_true, Bool.true_and, Bool.false_and, Bool.and_false, Bool.true_eq_false, Bool.false_eq_true, false_and, and_false, true_and, and_true, d_n0, d_lef, false_or, or_false, or_self, false_and, not_true_eq_false, not_false_eq_true, ne_eq, not_true, not_false_iff, aB_0, aB_1]
      · simp (disch := omega) only [f_X11_firstPartner_h7, dcN h, dc3 h, dc5 h, dc7 h, dc9 h, dc11 h, dc13 h, dc15 h, dc17 h, dc19 h, dc22 h, dc24 h, dc26 h, dc28 h, dc30 h]
        rw [if_pos (nI_le (Nat.le_refl _) (by omega))]
    by_cases c : dFind (fun k => decide (aExch N Q P i k = 0)) (N 6) = -1
    · refine Or.inr ⟨4, by decide, fun s h => ?_, fun s h => ⟨0, ?_⟩⟩
      · rw [hc s h, if_pos c]
      · have h0 := dM_726 h 0
        rw [fe_X12_firstPartner]; unfold fb_X12_firstPartner
        simp only [mL_y hN h hi, dm_firstPartner hW h0 hi, c, dK_a, dK_31, dK_32, dK_34, d_fails1, d_fails0, d_10, d_01, d_00, d_11, true_or, or_true, or_self, if_true, if_false, reduceIte, Option.elim_none, Option.elim_some, Option.bind_some, d_up_up]
    · refine Or.inl ⟨dFind (fun k => decide (aExch N Q P i k = 0)) (N 6), fun s h => ?_, fun s h => ?_⟩
      · rw [hc s h, if_neg c]
      · have h0 := dM_726 h 0
        rw [fe_X12_firstPartner]; unfold fb_X12_firstPartner
        simp only [mL_y hN h hi, dm_firstPartner hW h0 hi, c, d_fails1, d_fails0, d_10, d_01, d_00, d_11, true_or, or_true, or_self, if_true, if_false, reduceIte, Option.elim_none, Option.elim_some, Option.bind_some, d_up_up]
  · refine Or.inr ⟨3, by decide, fun s h => ?_, fun s h => ⟨0, ?_⟩⟩
    · rw [fe_X11_firstPartner]; unfold fb_X11_firstPartner
      simp only [cL_n hN h hn, d_fails1, d_fails0, d_10, d_01, d_00, d_11, true_or, or_true, or_self, if_true, if_false, reduceIte, Option.elim_none, Option.elim_some, Option.bind_some, d_up_up]
    · rw [fe_X12_firstPartner]; unfold fb_X12_firstPartner
      simp only [mL_n hN h hn, dK_a, dK_31, dK_32, dK_34, d_fails1, d_fails0, d_10, d_01, d_00, d_11, true_or, or_true, or_self, if_true, if_false, reduceIte, Option.elim_none, Option.elim_some, Option.bind_some, d_up_up]
end D18
