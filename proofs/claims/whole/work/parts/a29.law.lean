section D59
/-! ===== the law's loop ===== -/
variable {s : ga_M}
def gOk (o : Option (Int32 × ga_M)) : Prop := ∃ r, o = some (1, r)
theorem g_ite {c : Prop} [Decidable c] {A B : Option (Int32 × ga_M)} (ha : c → gOk A) (hb : ¬ c → gOk B) : gOk (if c then A else B) := by
  by_cases h : c
  · rw [if_pos h]; exact ha h
  · rw [if_neg h]; exact hb h
theorem lg_same (x : Int32) : lg_cmp x.toInt64 x.toInt64 = 0 := by
  have h1 : ¬ lg_cmp x.toInt64 x.toInt64 < 0 := by rw [lg_cmp_lt]; exact Int64.lt_irrefl
  have h2 : ¬ 0 < lg_cmp x.toInt64 x.toInt64 := by rw [lg_cmp_gt]; exact Int64.lt_irrefl
  exact Int32.le_antisymm (Int32.not_lt.mp h2) (Int32.not_lt.mp h1)
theorem g_step {fL : ga_M → Option ((Int32 ⊕ Nat) × ga_M)} {fM : ga_M → Option (Int32 × ga_M)} {K : ga_M → Option (Int32 × ga_M)} (h : dStep fL fM) (hI : dIs s) (hK : ∀ s2, dIs s2 → gOk (K s2)) :
    gOk ((fL s).bind fun q => Sum.elim (fun x => (fM q.2).bind fun q2 => if (v_X12_thrown q2.2) = x then (if x = 0 then (if (lg_cmp (q2.2 82 0).toInt64 (q2.1).toInt64) = 0 then K q2.2 else some (0, q2.2)) else K q2.2) else some (0, q2.2)) (fun _ => none) q.1) := by
  obtain ⟨k, s1, b, s2, e1, e2, e3, e4, e5⟩ := h s hI
  rw [e1, Option.bind_some]
  show gOk ((fM s1).bind _)
  rw [e2, Option.bind_some]
  dsimp only
  rw [if_pos e3]
  by_cases c : k = 0
  · rw [if_pos c, if_pos (show lg_cmp (s2 82 0).toInt64 b.toInt64 = 0 by rw [e4 c]; exact lg_same b)]; exact hK s2 e5
  · rw [if_neg c]; exact hK s2 e5
theorem g_step0 {fC fM : ga_M → Option (Int32 × ga_M)} {K : ga_M → Option (Int32 × ga_M)} (h : dStep0 fC fM) (hI : dIs s) (hK : ∀ s2, dIs s2 → gOk (K s2)) :
    gOk ((fC s).bind fun q => (fM q.2).bind fun q2 => if q.1 = q2.1 then K q2.2 else some (0, q2.2)) := by
  obtain ⟨v, s1, s2, e1, e2, e5⟩ := h s hI
  rw [e1, Option.bind_some, e2, Option.bind_some, if_pos rfl]
  exact hK s2 e5
theorem g_val {x : Int32} {q : Int32 × ga_M} {K : ga_M → Option (Int32 × ga_M)} (h : x = q.1 ∧ dIs q.2) (hK : ∀ s2, dIs s2 → gOk (K s2)) : gOk (if x = q.1 then K q.2 else some (0, q.2)) := by
  rw [if_pos h.1]; exact hK _ h.2
theorem law_step {xs : Nat → Int32} {LN n k : Nat} (hk : k + 6 ≤ LN) (hLN : LN ≤ 3072) (hI : dIs s) (ih : ∀ s2, dIs s2 → gOk (f_L_law_h xs LN n (nI (k + 6)) s2)) : gOk (f_L_law_h xs LN (n + 1) (nI k) s) := by
  have hst : (Int32.ofNat LN - 6 < nI k) = False := by
    rw [show Int32.ofNat LN - 6 = nI (LN - 6) from pk_sub (a := LN) (b := 6) (by omega)]
    exact eq_false (nI_nlt (by omega) (by omega))
  have g0 : (nI k < 0 ∨ LN ≤ (nI k).toNatClampNeg) = False := d_ix (by omega) (by omega)
  have g1 : (nI k + 1 < 0 ∨ LN ≤ (nI k + 1).toNatClampNeg) = False := by rw [show nI k + 1 = nI (k + 1) from nI_add k 1]; exact d_ix (by omega) (by omega)
  have g2 : (nI k + 2 < 0 ∨ LN ≤ (nI k + 2).toNatClampNeg) = False := by rw [show nI k + 2 = nI (k + 2) from nI_add k 2]; exact d_ix (by omega) (by omega)
  have g3 : (nI k + 3 < 0 ∨ LN ≤ (nI k + 3).toNatClampNeg) = False := by rw [show nI k + 3 = nI (k + 3) from nI_add k 3]; exact d_ix (by omega) (by omega)
  have g4 : (nI k + 4 < 0 ∨ LN ≤ (nI k + 4).toNatClampNeg) = False := by rw [show nI k + 4 = nI (k + 4) from nI_add k 4]; exact d_ix (by omega) (by omega)
  have g5 : (nI k + 5 < 0 ∨ LN ≤ (nI k + 5).toNatClampNeg) = False := by rw [show nI k + 5 = nI (k + 5) from nI_add k 5]; exact d_ix (by omega) (by omega)
  have e6 : nI k + 6 = nI (k + 6) := nI_add k 6
  rw [f_L_law_h]
  simp only [hst, g0, g1, g2, g3, g4, g5, e6, if_false]
  refine g_ite (fun _ => ?_) (fun _ => ?_)
  · exact g_step (K := fun s2 => f_L_law_h xs LN n (nI (k + 6)) s2) (st_appendText _ _ _ _ _) hI ih
  refine g_ite (fun _ => ?_) (fun _ => ?_)
  · exact g_step (K := fun s2 => f_L_law_h xs LN n (nI (k + 6)) s2) (st_truncateText _) hI ih
  refine g_ite (fun _ => ?_) (fun _ => ?_)
  · exact g_step0 (K := fun s2 => f_L_law_h xs LN n (nI (k + 6)) s2) st_parseSchool hI ih
  refine g_ite (fun _ => ?_) (fun _ => ?_)
  · exact g_step0 (K := fun s2 => f_L_law_h xs LN n (nI (k + 6)) s2) st_runScript hI ih
  refine g_ite (fun _ => ?_) (fun _ => ?_)
  · exact g_val (K := fun s2 => f_L_law_h xs LN n (nI (k + 6)) s2) (st_errorCode hI) ih
  refine g_ite (fun _ => ?_) (fun _ => ?_)
  · exact g_val (K := fun s2 => f_L_law_h xs LN n (nI (k + 6)) s2) (st_errorPosition hI) ih
  refine g_ite (fun _ => ?_) (fun _ => ?_)
  · refine g_ite (fun h0 => ?_) (fun h0 => ?_)
    · simp only [h0, if_true]
      exact g_step (K := fun s2 => f_L_law_h xs LN n (nI (k + 6)) s2) (st_setAbsent _ _ 0) hI ih
    · simp only [h0, if_false]
      exact g_step (K := fun s2 => f_L_law_h xs LN n (nI (k + 6)) s2) (st_setAbsent _ _ 1) hI ih
  refine g_ite (fun _ => ?_) (fun _ => ?_)
  · exact g_step (K := fun s2 => f_L_law_h xs LN n (nI (k + 6)) s2) (st_cover _ _) hI ih
  refine g_ite (fun _ => ?_) (fun _ => ?_)
  · exact g_step (K := fun s2 => f_L_law_h xs LN n (nI (k + 6)) s2) (st_supervise _ _) hI ih
  refine g_ite (fun _ => ?_) (fun _ => ?_)
  · exact g_step (K := fun s2 => f_L_law_h xs LN n (nI (k + 6)) s2) (st_repair _) hI ih
  refine g_ite (fun _ => ?_) (fun _ => ?_)
  · exact g_step0 (K := fun s2 => f_L_law_h xs LN n (nI (k + 6)) s2) st_repairAll hI ih
  refine g_ite (fun _ => ?_) (fun _ => ?_)
  · exact g_step (K := fun s2 => f_L_law_h xs LN n (nI (k + 6)) s2) (st_exchange _ _) hI ih
  refine g_ite (fun _ => ?_) (fun _ => ?_)
  · exact g_step (K := fun s2 => f_L_law_h xs LN n (nI (k + 6)) s2) (st_move _ _) hI ih
  refine g_ite (fun _ => ?_) (fun _ => ?_)
  · exact g_step (K := fun s2 => f_L_law_h xs LN n (nI (k + 6)) s2) (st_setRoom _ _) hI ih
  refine g_ite (fun _ => ?_) (fun _ => ?_)
  · exact g_step (K := fun s2 => f_L_law_h xs LN n (nI (k + 6)) s2) (st_reopen _) hI ih
  refine g_ite (fun _ => ?_) (fun _ => ?_)
  · exact g_step0 (K := fun s2 => f_L_law_h xs LN n (nI (k + 6)) s2) st_reset hI ih
  refine g_ite (fun _ => ?_) (fun _ => ?_)
  · exact g_step (K := fun s2 => f_L_law_h xs LN n (nI (k + 6)) s2) (st_whyNotCover _ _) hI ih
  refine g_ite (fun _ => ?_) (fun _ => ?_)
  · exact g_step (K := fun s2 => f_L_law_h xs LN n (nI (k + 6)) s2) (st_whyNotSupervise _ _) hI ih
  refine g_ite (fun _ => ?_) (fun _ => ?_)
  · exact g_step (K := fun s2 => f_L_law_h xs LN n (nI (k + 6)) s2) (st_whyNotExchange _ _) hI ih
  refine g_ite (fun _ => ?_) (fun _ => ?_)
  · exact g_step (K := fun s2 => f_L_law_h xs LN n (nI (k + 6)) s2) (st_whyNotMove _ _) hI ih
  refine g_ite (fun _ => ?_) (fun _ => ?_)
  · exact g_step (K := fun s2 => f_L_law_h xs LN n (nI (k + 6)) s2) (st_whyNotRoom _ _) hI ih
  refine g_ite (fun _ => ?_) (fun _ => ?_)
  · exact g_step (K := fun s2 => f_L_law_h xs LN n (nI (k + 6)) s2) (st_candidates _) hI ih
  refine g_ite (fun _ => ?_) (fun _ => ?_)
  · exact g_step (K := fun s2 => f_L_law_h xs LN n (nI (k + 6)) s2) (st_chain _) hI ih
  refine g_ite (fun _ => ?_) (fun _ => ?_)
  · exact g_step (K := fun s2 => f_L_law_h xs LN n (nI (k + 6)) s2) (st_chainTeacher _ _) hI ih
  refine g_ite (fun _ => ?_) (fun _ => ?_)
  · exact g_step (K := fun s2 => f_L_law_h xs LN n (nI (k + 6)) s2) (st_partners _) hI ih
  refine g_ite (fun _ => ?_) (fun _ => ?_)
  · exact g_step (K := fun s2 => f_L_law_h xs LN n (nI (k + 6)) s2) (st_firstPartner _) hI ih
  refine g_ite (fun _ => ?_) (fun _ => ?_)
  · exact g_step (K := fun s2 => f_L_law_h xs LN n (nI (k + 6)) s2) (st_slotsFor _) hI ih
  refine g_ite (fun _ => ?_) (fun _ => ?_)
  · exact g_step (K := fun s2 => f_L_law_h xs LN n (nI (k + 6)) s2) (st_count _) hI ih
  refine g_ite (fun _ => ?_) (fun _ => ?_)
  · exact g_step (K := fun s2 => f_L_law_h xs LN n (nI (k + 6)) s2) (st_lesson _ _) hI ih
  refine g_ite (fun _ => ?_) (fun _ => ?_)
  · exact g_step (K := fun s2 => f_L_law_h xs LN n (nI (k + 6)) s2) (st_teacher _ _) hI ih
  refine g_ite (fun _ => ?_) (fun _ => ?_)
  · exact g_step (K := fun s2 => f_L_law_h xs LN n (nI (k + 6)) s2) (st_room _ _) hI ih
  refine g_ite (fun _ => ?_) (fun _ => ?_)
  · exact g_step (K := fun s2 => f_L_law_h xs LN n (nI (k + 6)) s2) (st_subject _ _) hI ih
  refine g_ite (fun _ => ?_) (fun _ => ?_)
  · exact g_step (K := fun s2 => f_L_law_h xs LN n (nI (k + 6)) s2) (st_lessonOfClass _ _) hI ih
  refine g_ite (fun _ => ?_) (fun _ => ?_)
  · exact g_step (K := fun s2 => f_L_law_h xs LN n (nI (k + 6)) s2) (st_lessonOfTeacher _ _) hI ih
  refine g_ite (fun _ => ?_) (fun _ => ?_)
  · exact g_step (K := fun s2 => f_L_law_h xs LN n (nI (k + 6)) s2) (st_lessonInRoom _ _) hI ih
  refine g_ite (fun _ => ?_) (fun _ => ?_)
  · exact g_step (K := fun s2 => f_L_law_h xs LN n (nI (k + 6)) s2) (st_freeTeachers _) hI ih
  refine g_ite (fun _ => ?_) (fun _ => ?_)
  · exact g_step (K := fun s2 => f_L_law_h xs LN n (nI (k + 6)) s2) (st_freeRooms _ _) hI ih
  refine g_ite (fun _ => ?_) (fun _ => ?_)
  · exact g_step (K := fun s2 => f_L_law_h xs LN n (nI (k + 6)) s2) (st_openLesson _) hI ih
  refine g_ite (fun _ => ?_) (fun _ => ?_)
  · exact g_step (K := fun s2 => f_L_law_h xs LN n (nI (k + 6)) s2) (st_difference _) hI ih
  refine g_ite (fun _ => ?_) (fun _ => ?_)
  · exact g_step (K := fun s2 => f_L_law_h xs LN n (nI (k + 6)) s2) (st_windows _ _) hI ih
  refine g_ite (fun _ => ?_) (fun _ => ?_)
  · exact g_step (K := fun s2 => f_L_law_h xs LN n (nI (k + 6)) s2) (st_classWindows _ _) hI ih
  refine g_ite (fun _ => ?_) (fun _ => ?_)
  · obtain ⟨v, s2, e1, e2, e3⟩ := st_spread hI
    rw [e1, e2, Option.bind_some, Option.bind_some, if_pos rfl]
    exact ih s2 e3
  refine g_ite (fun _ => ?_) (fun _ => ?_)
  · obtain ⟨v, s2, e1, e2, e3⟩ := st_share hI
    rw [e1, e2, Option.bind_some, Option.bind_some]
    refine g_ite (fun _ => ih s2 e3) (fun hc => ?_)
    rw [if_neg hc, if_neg hc]
    exact ih s2 e3
  refine g_ite (fun _ => ?_) (fun _ => ?_)
  · exact g_step (K := fun s2 => f_L_law_h xs LN n (nI (k + 6)) s2) (st_writeReport _) hI ih
  refine g_ite (fun _ => ?_) (fun _ => ?_)
  · exact g_step (K := fun s2 => f_L_law_h xs LN n (nI (k + 6)) s2) (st_reportByte _) hI ih
  refine g_ite (fun _ => ?_) (fun _ => ?_)
  · exact g_step (K := fun s2 => f_L_law_h xs LN n (nI (k + 6)) s2) st_undo hI ih
  refine g_ite (fun _ => ?_) (fun _ => ?_)
  · exact g_val (K := fun s2 => f_L_law_h xs LN n (nI (k + 6)) s2) (st_undoDepth hI) ih
  exact ih s hI
theorem law_loop {xs : Nat → Int32} {LN : Nat} (hLN : LN ≤ 3072) : ∀ (m n k : Nat) (s : ga_M), LN - k < 6 * m → m ≤ n → k ≤ LN → dIs s → gOk (f_L_law_h xs LN n (nI k) s) := by
  intro m
  induction m with
  | zero => intro n k s h; omega
  | succ m ih =>
    intro n k s h hn hkL hI
    obtain ⟨n, rfl⟩ : ∃ j, n = j + 1 := ⟨n - 1, by omega⟩
    by_cases hk : k + 6 ≤ LN
    · exact law_step hk hLN hI (fun s2 h2 => ih n (k + 6) s2 (by omega) (by omega) hk h2)
    · have hst : Int32.ofNat LN - 6 < nI k := by
        by_cases h6 : 6 ≤ LN
        · rw [show Int32.ofNat LN - 6 = nI (LN - 6) from pk_sub (a := LN) (b := 6) h6]
          exact nI_lt (by omega) (by omega)
        · have hp : ¬ nI k < 0 := nI_pos (by omega)
          have hn : Int32.ofNat LN - 6 < 0 := by
            rcases (show LN = 0 ∨ LN = 1 ∨ LN = 2 ∨ LN = 3 ∨ LN = 4 ∨ LN = 5 by omega) with rfl | rfl | rfl | rfl | rfl | rfl
            all_goals decide
          exact Int32.lt_of_lt_of_le hn (Int32.not_lt.mp hp)
      rw [f_L_law_h, if_pos hst]
      exact ⟨s, rfl⟩
end D59
