section D16
variable {N : Nat → Nat} {Q P : Nat → Nat → Int32} {s : ga_M}
theorem q_whyNotCover (hW : dW N Q P) (a b : Int32) : dQc N Q P (f_X11_whyNotCover a b) (f_X12_whyNotCover a b) (dK 3 3) := by
  have hN := hW.1
  have hB := dWN_b hN
  rcases d_in a (N 6) (by omega) with ⟨i, hi, rfl⟩ | ⟨_, hn⟩
  · rcases d_in b (N 3) (by omega) with ⟨j, hj, rfl⟩ | ⟨_, hn⟩
    · refine Or.inl ⟨aCover N Q P i j, fun s h => ?_, fun s h => ?_⟩
      · rw [fe_X11_whyNotCover]; unfold fb_X11_whyNotCover
        simp only [cL_y hN h hi, cT_y hN h hj, dc_againstCover hW h hi hj, d_fails1, d_fails0, d_10, d_01, d_00, d_11, true_or, or_true, or_self, if_true, if_false, reduceIte, Option.elim_none, Option.elim_some, Option.bind_some, d_up_up]
      · have h0 := dM_726 h 0
        rw [fe_X12_whyNotCover]; unfold fb_X12_whyNotCover
        simp only [mL_y hN h hi, mT_y hN h hj, dm_againstCover hW h0 hi hj, d_fails1, d_fails0, d_10, d_01, d_00, d_11, true_or, or_true, or_self, if_true, if_false, reduceIte, Option.elim_none, Option.elim_some, Option.bind_some, d_up_up]
    · refine Or.inr ⟨3, by decide, fun s h => ?_, fun s h => ⟨0, ?_⟩⟩
      · rw [fe_X11_whyNotCover]; unfold fb_X11_whyNotCover
        simp only [cL_y hN h hi, cT_n hN h hn, d_fails1, d_fails0, d_10, d_01, d_00, d_11, true_or, or_true, or_self, if_true, if_false, reduceIte, Option.elim_none, Option.elim_some, Option.bind_some, d_up_up]
      · rw [fe_X12_whyNotCover]; unfold fb_X12_whyNotCover
        simp only [mL_y hN h hi, mT_n hN h hn, dK_a, dK_31, dK_32, dK_34, d_fails1, d_fails0, d_10, d_01, d_00, d_11, true_or, or_true, or_self, if_true, if_false, reduceIte, Option.elim_none, Option.elim_some, Option.bind_some, d_up_up]
  · refine Or.inr ⟨3, by decide, fun s h => ?_, fun s h => ⟨0, ?_⟩⟩
    · rw [fe_X11_whyNotCover]; unfold fb_X11_whyNotCover
      simp only [cL_n hN h hn, d_fails1, d_fails0, d_10, d_01, d_00, d_11, true_or, or_true, or_self, if_true, if_false, reduceIte, Option.elim_none, Option.elim_some, Option.bind_some, d_up_up]
    · rw [fe_X12_whyNotCover]; unfold fb_X12_whyNotCover
      simp only [mL_n hN h hn, dK_a, dK_31, dK_32, dK_34, d_fails1, d_fails0, d_10, d_01, d_00, d_11, true_or, or_true, or_self, if_true, if_false, reduceIte, Option.elim_none, Option.elim_some, Option.bind_some, d_up_up]
theorem q_whyNotSupervise (hW : dW N Q P) (a b : Int32) : dQc N Q P (f_X11_whyNotSupervise a b) (f_X12_whyNotSupervise a b) (dK 3 3) := by
  have hN := hW.1
  have hB := dWN_b hN
  rcases d_in a (N 6) (by omega) with ⟨i, hi, rfl⟩ | ⟨_, hn⟩
  · rcases d_in b (N 3) (by omega) with ⟨j, hj, rfl⟩ | ⟨_, hn⟩
    · refine Or.inl ⟨aSuper N P i j, fun s h => ?_, fun s h => ?_⟩
      · rw [fe_X11_whyNotSupervise]; unfold fb_X11_whyNotSupervise
        simp only [cL_y hN h hi, cT_y hN h hj, dc_againstSupervision hW h hi hj, d_fails1, d_fails0, d_10, d_01, d_00, d_11, true_or, or_true, or_self, if_true, if_false, reduceIte, Option.elim_none, Option.elim_some, Option.bind_some, d_up_up]
      · have h0 := dM_726 h 0
        rw [fe_X12_whyNotSupervise]; unfold fb_X12_whyNotSupervise
        simp only [mL_y hN h hi, mT_y hN h hj, dm_againstSupervision hW h0 hi hj, d_fails1, d_fails0, d_10, d_01, d_00, d_11, true_or, or_true, or_self, if_true, if_false, reduceIte, Option.elim_none, Option.elim_some, Option.bind_some, d_up_up]
    · refine Or.inr ⟨3, by decide, fun s h => ?_, fun s h => ⟨0, ?_⟩⟩
      · rw [fe_X11_whyNotSupervise]; unfold fb_X11_whyNotSupervise
        simp only [cL_y hN h hi, cT_n hN h hn, d_fails1, d_fails0, d_10, d_01, d_00, d_11, true_or, or_true, or_self, if_true, if_false, reduceIte, Option.elim_none, Option.elim_some, Option.bind_some, d_up_up]
      · rw [fe_X12_whyNotSupervise]; unfold fb_X12_whyNotSupervise
        simp only [mL_y hN h hi, mT_n hN h hn, dK_a, dK_31, dK_32, dK_34, d_fails1, d_fails0, d_10, d_01, d_00, d_11, true_or, or_true, or_self, if_true, if_false, reduceIte, Option.elim_none, Option.elim_some, Option.bind_some, d_up_up]
  · refine Or.inr ⟨3, by decide, fun s h => ?_, fun s h => ⟨0, ?_⟩⟩
    · rw [fe_X11_whyNotSupervise]; unfold fb_X11_whyNotSupervise
      simp only [cL_n hN h hn, d_fails1, d_fails0, d_10, d_01, d_00, d_11, true_or, or_true, or_self, if_true, if_false, reduceIte, Option.elim_none, Option.elim_some, Option.bind_some, d_up_up]
    · rw [fe_X12_whyNotSupervise]; unfold fb_X12_whyNotSupervise
      simp only [mL_n hN h hn, dK_a, dK_31, dK_32, dK_34, d_fails1, d_fails0, d_10, d_01, d_00, d_11, true_or, or_true, or_self, if_true, if_false, reduceIte, Option.elim_none, Option.elim_some, Option.bind_some, d_up_up]
theorem q_whyNotExchange (hW : dW N Q P) (a b : Int32) : dQc N Q P (f_X11_whyNotExchange a b) (f_X12_whyNotExchange a b) (dK 3 3) := by
  have hN := hW.1
  have hB := dWN_b hN
  rcases d_in a (N 6) (by omega) with ⟨i, hi, rfl⟩ | ⟨_, hn⟩
  · rcases d_in b (N 6) (by omega) with ⟨j, hj, rfl⟩ | ⟨_, hn⟩
    · refine Or.inl ⟨aExch N Q P i j, fun s h => ?_, fun s h => ?_⟩
      · rw [fe_X11_whyNotExchange]; unfold fb_X11_whyNotExchange
        simp only [cL_y hN h hi, cL_y hN h hj, dc_againstExchange hW h hi hj, d_fails1, d_fails0, d_10, d_01, d_00, d_11, true_or, or_true, or_self, if_true, if_false, reduceIte, Option.elim_none, Option.elim_some, Option.bind_some, d_up_up]
      · have h0 := dM_726 h 0
        rw [fe_X12_whyNotExchange]; unfold fb_X12_whyNotExchange
        simp only [mL_y hN h hi, mL_y hN h hj, dm_againstExchange hW h0 hi hj, d_fails1, d_fails0, d_10, d_01, d_00, d_11, true_or, or_true, or_self, if_true, if_false, reduceIte, Option.elim_none, Option.elim_some, Option.bind_some, d_up_up]
    · refine Or.inr ⟨3, by decide, fun s h => ?_, fun s h => ⟨0, ?_⟩⟩
      · rw [fe_X11_whyNotExchange]; unfold fb_X11_whyNotExchange
        simp only [cL_y hN h hi, cL_n hN h hn, d_fails1, d_fails0, d_10, d_01, d_00, d_11, true_or, or_true, or_self, if_true, if_false, reduceIte, Option.elim_none, Option.elim_some, Option.bind_some, d_up_up]
      · rw [fe_X12_whyNotExchange]; unfold fb_X12_whyNotExchange
        simp only [mL_y hN h hi, mL_n hN h hn, dK_a, dK_31, dK_32, dK_34, d_fails1, d_fails0, d_10, d_01, d_00, d_11, true_or, or_true, or_self, if_true, if_false, reduceIte, Option.elim_none, Option.elim_some, Option.bind_some, d_up_up]
  · refine Or.inr ⟨3, by decide, fun s h => ?_, fun s h => ⟨0, ?_⟩⟩
    · rw [fe_X11_whyNotExchange]; unfold fb_X11_whyNotExchange
      simp only [cL_n hN h hn, d_fails1, d_fails0, d_10, d_01, d_00, d_11, true_or, or_true, or_self, if_true, if_false, reduceIte, Option.elim_none, Option.elim_some, Option.bind_some, d_up_up]
    · rw [fe_X12_whyNotExchange]; unfold fb_X12_whyNotExchange
      simp only [mL_n hN h hn, dK_a, dK_31, dK_32, dK_34, d_fails1, d_fails0, d_10, d_01, d_00, d_11, true_or, or_true, or_self, if_true, if_false, reduceIte, Option.elim_none, Option.elim_some, Option.bind_some, d_up_up]
theorem q_whyNotMove (hW : dW N Q P) (a b : Int32) : dQc N Q P (f_X11_whyNotMove a b) (f_X12_whyNotMove a b) (dK 3 3) := by
  have hN := hW.1
  have hB := dWN_b hN
  rcases d_in a (N 6) (by omega) with ⟨i, hi, rfl⟩ | ⟨_, hn⟩
  · rcases d_in b (dSl N) (by omega) with ⟨j, hj, rfl⟩ | ⟨_, hn⟩
    · refine Or.inl ⟨aMove N Q P i (nI j), fun s h => ?_, fun s h => ?_⟩
      · rw [fe_X11_whyNotMove]; unfold fb_X11_whyNotMove
        simp only [cL_y hN h hi, cS_y hN h hj, dc_againstMove hW h hi hj, d_fails1, d_fails0, d_10, d_01, d_00, d_11, true_or, or_true, or_self, if_true, if_false, reduceIte, Option.elim_none, Option.elim_some, Option.bind_some, d_up_up]
      · have h0 := dM_726 h 0
        rw [fe_X12_whyNotMove]; unfold fb_X12_whyNotMove
        simp only [mL_y hN h hi, mS_y hN h hj, dm_againstMove hW h0 hi, d_fails1, d_fails0, d_10, d_01, d_00, d_11, true_or, or_true, or_self, if_true, if_false, reduceIte, Option.elim_none, Option.elim_some, Option.bind_some, d_up_up]
    · refine Or.inr ⟨3, by decide, fun s h => ?_, fun s h => ⟨0, ?_⟩⟩
      · rw [fe_X11_whyNotMove]; unfold fb_X11_whyNotMove
        simp only [cL_y hN h hi, cS_n hN h hn, d_fails1, d_fails0, d_10, d_01, d_00, d_11, true_or, or_true, or_self, if_true, if_false, reduceIte, Option.elim_none, Option.elim_some, Option.bind_some, d_up_up]
      · rw [fe_X12_whyNotMove]; unfold fb_X12_whyNotMove
        simp only [mL_y hN h hi, mS_n hN h hn, dK_a, dK_31, dK_32, dK_34, d_fails1, d_fails0, d_10, d_01, d_00, d_11, true_or, or_true, or_self, if_true, if_false, reduceIte, Option.elim_none, Option.elim_some, Option.bind_some, d_up_up]
  · refine Or.inr ⟨3, by decide, fun s h => ?_, fun s h => ⟨0, ?_⟩⟩
    · rw [fe_X11_whyNotMove]; unfold fb_X11_whyNotMove
      simp only [cL_n hN h hn, d_fails1, d_fails0, d_10, d_01, d_00, d_11, true_or, or_true, or_self, if_true, if_false, reduceIte, Option.elim_none, Option.elim_some, Option.bind_some, d_up_up]
    · rw [fe_X12_whyNotMove]; unfold fb_X12_whyNotMove
      simp only [mL_n hN h hn, dK_a, dK_31, dK_32, dK_34, d_fails1, d_fails0, d_10, d_01, d_00, d_11, true_or, or_true, or_self, if_true, if_false, reduceIte, Option.elim_none, Option.elim_some, Option.bind_some, d_up_up]
theorem q_whyNotRoom (hW : dW N Q P) (a b : Int32) : dQc N Q P (f_X11_whyNotRoom a b) (f_X12_whyNotRoom a b) (dK 3 3) := by
  have hN := hW.1
  have hB := dWN_b hN
  rcases d_in a (N 6) (by omega) with ⟨i, hi, rfl⟩ | ⟨_, hn⟩
  · rcases d_in b (N 4) (by omega) with ⟨j, hj, rfl⟩ | ⟨_, hn⟩
    · refine Or.inl ⟨aRoom N Q P i j, fun s h => ?_, fun s h => ?_⟩
      · rw [fe_X11_whyNotRoom]; unfold fb_X11_whyNotRoom
        simp only [cL_y hN h hi, cR_y hN h hj, dc_againstRoom hW h hi hj, d_fails1, d_fails0, d_10, d_01, d_00, d_11, true_or, or_true, or_self, if_true, if_false, reduceIte, Option.elim_none, Option.elim_some, Option.bind_some, d_up_up]
      · have h0 := dM_726 h 0
        rw [fe_X12_whyNotRoom]; unfold fb_X12_whyNotRoom
        simp only [mL_y hN h hi, mR_y hN h hj, dm_againstRoom hW h0 hi hj, d_fails1, d_fails0, d_10, d_01, d_00, d_11, true_or, or_true, or_self, if_true, if_false, reduceIte, Option.elim_none, Option.elim_some, Option.bind_some, d_up_up]
    · refine Or.inr ⟨3, by decide, fun s h => ?_, fun s h => ⟨0, ?_⟩⟩
      · rw [fe_X11_whyNotRoom]; unfold fb_X11_whyNotRoom
        simp only [cL_y hN h hi, cR_n hN h hn, d_fails1, d_fails0, d_10, d_01, d_00, d_11, true_or, or_true, or_self, if_true, if_false, reduceIte, Option.elim_none, Option.elim_some, Option.bind_some, d_up_up]
      · rw [fe_X12_whyNotRoom]; unfold fb_X12_whyNotRoom
        simp only [mL_y hN h hi, mR_n hN h hn, dK_a, dK_31, dK_32, dK_34, d_fails1, d_fails0, d_10, d_01, d_00, d_11, true_or, or_true, or_self, if_true, if_false, reduceIte, Option.elim_none, Option.elim_some, Option.bind_some, d_up_up]
  · refine Or.inr ⟨3, by decide, fun s h => ?_, fun s h => ⟨0, ?_⟩⟩
    · rw [fe_X11_whyNotRoom]; unfold fb_X11_whyNotRoom
      simp only [cL_n hN h hn, d_fails1, d_fails0, d_10, d_01, d_00, d_11, true_or, or_true, or_self, if_true, if_false, reduceIte, Option.elim_none, Option.elim_some, Option.bind_some, d_up_up]
    · rw [fe_X12_whyNotRoom]; unfold fb_X12_whyNotRoom
      simp only [mL_n hN h hn, dK_a, dK_31, dK_32, dK_34, d_fails1, d_fails0, d_10, d_01, d_00, d_11, true_or, or_true, or_self, if_true, if_false, reduceIte, Option.elim_none, Option.elim_some, Option.bind_some, d_up_up]
theorem q_lessonOfClass (hW : dW N Q P) (a b : Int32) : dQc N Q P (f_X11_lessonOfClass a b) (f_X12_lessonOfClass a b) (dK 3 3) := by
  have hN := hW.1
  have hB := dWN_b hN
  rcases d_in a (dSl N) (by omega) with ⟨i, hi, rfl⟩ | ⟨_, hn⟩
  · rcases d_in b (N 5) (by omega) with ⟨j, hj, rfl⟩ | ⟨_, hn⟩
    · refine Or.inl ⟨aAtC N Q P (nI i) (nI j), fun s h => ?_, fun s h => ?_⟩
      · rw [fe_X11_lessonOfClass]; unfold fb_X11_lessonOfClass
        simp only [cS_y hN h hi, cK_y hN h hj, dc_lessonAt_10 hN h, d_fails1, d_fails0, d_10, d_01, d_00, d_11, true_or, or_true, or_self, if_true, if_false, reduceIte, Option.elim_none, Option.elim_some, Option.bind_some, d_up_up]
      · have h0 := dM_726 h 0
        rw [fe_X12_lessonOfClass]; unfold fb_X12_lessonOfClass
        simp only [mS_y hN h hi, mK_y hN h hj, dm_ofClass hN h0, d_fails1, d_fails0, d_10, d_01, d_00, d_11, true_or, or_true, or_self, if_true, if_false, reduceIte, Option.elim_none, Option.elim_some, Option.bind_some, d_up_up]
    · refine Or.inr ⟨3, by decide, fun s h => ?_, fun s h => ⟨0, ?_⟩⟩
      · rw [fe_X11_lessonOfClass]; unfold fb_X11_lessonOfClass
        simp only [cS_y hN h hi, cK_n hN h hn, d_fails1, d_fails0, d_10, d_01, d_00, d_11, true_or, or_true, or_self, if_true, if_false, reduceIte, Option.elim_none, Option.elim_some, Option.bind_some, d_up_up]
      · rw [fe_X12_lessonOfClass]; unfold fb_X12_lessonOfClass
        simp only [mS_y hN h hi, mK_n hN h hn, dK_a, dK_31, dK_32, dK_34, d_fails1, d_fails0, d_10, d_01, d_00, d_11, true_or, or_true, or_self, if_true, if_false, reduceIte, Option.elim_none, Option.elim_some, Option.bind_some, d_up_up]
  · refine Or.inr ⟨3, by decide, fun s h => ?_, fun s h => ⟨0, ?_⟩⟩
    · rw [fe_X11_lessonOfClass]; unfold fb_X11_lessonOfClass
      simp only [cS_n hN h hn, d_fails1, d_fails0, d_10, d_01, d_00, d_11, true_or, or_true, or_self, if_true, if_false, reduceIte, Option.elim_none, Option.elim_some, Option.bind_some, d_up_up]
    · rw [fe_X12_lessonOfClass]; unfold fb_X12_lessonOfClass
      simp only [mS_n hN h hn, dK_a, dK_31, dK_32, dK_34, d_fails1, d_fails0, d_10, d_01, d_00, d_11, true_or, or_true, or_self, if_true, if_false, reduceIte, Option.elim_none, Option.elim_some, Option.bind_some, d_up_up]
theorem q_lessonOfTeacher (hW : dW N Q P) (a b : Int32) : dQc N Q P (f_X11_lessonOfTeacher a b) (f_X12_lessonOfTeacher a b) (dK 3 3) := by
  have hN := hW.1
  have hB := dWN_b hN
  rcases d_in a (dSl N) (by omega) with ⟨i, hi, rfl⟩ | ⟨_, hn⟩
  · rcases d_in b (N 3) (by omega) with ⟨j, hj, rfl⟩ | ⟨_, hn⟩
    · refine Or.inl ⟨aAt N P 1 (nI i) (nI j), fun s h => ?_, fun s h => ?_⟩
      · rw [fe_X11_lessonOfTeacher]; unfold fb_X11_lessonOfTeacher
        simp only [cS_y hN h hi, cT_y hN h hj, dc_lessonAt_23 hN h, d_fails1, d_fails0, d_10, d_01, d_00, d_11, true_or, or_true, or_self, if_true, if_false, reduceIte, Option.elim_none, Option.elim_some, Option.bind_some, d_up_up]
      · have h0 := dM_726 h 0
        rw [fe_X12_lessonOfTeacher]; unfold fb_X12_lessonOfTeacher
        simp only [mS_y hN h hi, mT_y hN h hj, dm_ofTeacher2 hN h0, d_fails1, d_fails0, d_10, d_01, d_00, d_11, true_or, or_true, or_self, if_true, if_false, reduceIte, Option.elim_none, Option.elim_some, Option.bind_some, d_up_up]
    · refine Or.inr ⟨3, by decide, fun s h => ?_, fun s h => ⟨0, ?_⟩⟩
      · rw [fe_X11_lessonOfTeacher]; unfold fb_X11_lessonOfTeacher
        simp only [cS_y hN h hi, cT_n hN h hn, d_fails1, d_fails0, d_10, d_01, d_00, d_11, true_or, or_true, or_self, if_true, if_false, reduceIte, Option.elim_none, Option.elim_some, Option.bind_some, d_up_up]
      · rw [fe_X12_lessonOfTeacher]; unfold fb_X12_lessonOfTeacher
        simp only [mS_y hN h hi, mT_n hN h hn, dK_a, dK_31, dK_32, dK_34, d_fails1, d_fails0, d_10, d_01, d_00, d_11, true_or, or_true, or_self, if_true, if_false, reduceIte, Option.elim_none, Option.elim_some, Option.bind_some, d_up_up]
  · refine Or.inr ⟨3, by decide, fun s h => ?_, fun s h => ⟨0, ?_⟩⟩
    · rw [fe_X11_lessonOfTeacher]; unfold fb_X11_lessonOfTeacher
      simp only [cS_n hN h hn, d_fails1, d_fails0, d_10, d_01, d_00, d_11, true_or, or_true, or_self, if_true, if_false, reduceIte, Option.elim_none, Option.elim_some, Option.bind_some, d_up_up]
    · rw [fe_X12_lessonOfTeacher]; unfold fb_X12_lessonOfTeacher
      simp only [mS_n hN h hn, dK_a, dK_31, dK_32, dK_34, d_fails1, d_fails0, d_10, d_01, d_00, d_11, true_or, or_true, or_self, if_true, if_false, reduceIte, Option.elim_none, Option.elim_some, Option.bind_some, d_up_up]
theorem q_lessonInRoom (hW : dW N Q P) (a b : Int32) : dQc N Q P (f_X11_lessonInRoom a b) (f_X12_lessonInRoom a b) (dK 3 3) := by
  have hN := hW.1
  have hB := dWN_b hN
  rcases d_in a (dSl N) (by omega) with ⟨i, hi, rfl⟩ | ⟨_, hn⟩
  · rcases d_in b (N 4) (by omega) with ⟨j, hj, rfl⟩ | ⟨_, hn⟩
    · refine Or.inl ⟨aAt N P 2 (nI i) (nI j), fun s h => ?_, fun s h => ?_⟩
      · rw [fe_X11_lessonInRoom]; unfold fb_X11_lessonInRoom
        simp only [cS_y hN h hi, cR_y hN h hj, dc_lessonAt_25 hN h, d_fails1, d_fails0, d_10, d_01, d_00, d_11, true_or, or_true, or_self, if_true, if_false, reduceIte, Option.elim_none, Option.elim_some, Option.bind_some, d_up_up]
      · have h0 := dM_726 h 0
        rw [fe_X12_lessonInRoom]; unfold fb_X12_lessonInRoom
        simp only [mS_y hN h hi, mR_y hN h hj, dm_inRoom hN h0, d_fails1, d_fails0, d_10, d_01, d_00, d_11, true_or, or_true, or_self, if_true, if_false, reduceIte, Option.elim_none, Option.elim_some, Option.bind_some, d_up_up]
    · refine Or.inr ⟨3, by decide, fun s h => ?_, fun s h => ⟨0, ?_⟩⟩
      · rw [fe_X11_lessonInRoom]; unfold fb_X11_lessonInRoom
        simp only [cS_y hN h hi, cR_n hN h hn, d_fails1, d_fails0, d_10, d_01, d_00, d_11, true_or, or_true, or_self, if_true, if_false, reduceIte, Option.elim_none, Option.elim_some, Option.bind_some, d_up_up]
      · rw [fe_X12_lessonInRoom]; unfold fb_X12_lessonInRoom
        simp only [mS_y hN h hi, mR_n hN h hn, dK_a, dK_31, dK_32, dK_34, d_fails1, d_fails0, d_10, d_01, d_00, d_11, true_or, or_true, or_self, if_true, if_false, reduceIte, Option.elim_none, Option.elim_some, Option.bind_some, d_up_up]
  · refine Or.inr ⟨3, by decide, fun s h => ?_, fun s h => ⟨0, ?_⟩⟩
    · rw [fe_X11_lessonInRoom]; unfold fb_X11_lessonInRoom
      simp only [cS_n hN h hn, d_fails1, d_fails0, d_10, d_01, d_00, d_11, true_or, or_true, or_self, if_true, if_false, reduceIte, Option.elim_none, Option.elim_some, Option.bind_some, d_up_up]
    · rw [fe_X12_lessonInRoom]; unfold fb_X12_lessonInRoom
      simp only [mS_n hN h hn, dK_a, dK_31, dK_32, dK_34, d_fails1, d_fails0, d_10, d_01, d_00, d_11, true_or, or_true, or_self, if_true, if_false, reduceIte, Option.elim_none, Option.elim_some, Option.bind_some, d_up_up]
end D16
