section
variable {l : Launch} {D : va_G} {cA : Nat → ClassId} {ad : Nat → Nat} {A : Nat → Prop} {adV : Nat → Nat}
theorem gc_rk_X7_becomeEmpty : cl_X7_becomeEmpty.all (gb_rk gb_flX7 gb_slX7 gb_nlX7 gb_llX7 gb_tlX7 cX7_becomeEmpty) = true := by decide +kernel
theorem gc_ck_X7_becomeEmpty : cl_X7_becomeEmpty.all (gc_ck gb_lkX7 gb_lnX7 [] 0) = true := by decide +kernel
theorem gm_7 (hl : l.stackTraces = false) : gc_MM l D cA ad A adV 7 := by
  refine ⟨gb_T7, fun h => absurd h (by decide +kernel), fun as σ o hg => ?_⟩
  have hM : ∀ mid ∈ ([] : List Nat), gc_MM l D cA ad A adV mid := (fun _ h => nomatch h)
  replace hg : c_X7_becomeEmpty as gaSH σ some = some o := hg
  unfold c_X7_becomeEmpty at hg
  split at hg
  · skip
    rename_i r0
    rcases gc_bif2 hg with ⟨hb, hg⟩ | hg
    · skip
      obtain rfl := Nat.eq_of_beq_eq_true hb
      obtain rfl := Option.some.inj hg
      exact gc_metG (maxL := 1) (lf := true) hl gc_pnX7 rfl gb_oX7 gc_rk_X7_becomeEmpty gb_nX7 hM gc_ck_X7_becomeEmpty (t_X7_becomeEmpty_49 σ _ (e_X7_becomeEmpty_49 σ)) gc_hoV rfl (fun v hv => by cases hv; rfl) (Nat.le_of_ble_eq_true rfl) rfl
    · skip
      obtain ⟨hb, hg⟩ := gc_bif hg
      obtain rfl := Nat.eq_of_beq_eq_true hb
      obtain rfl := Option.some.inj hg
      exact gc_metG (maxL := 1) (lf := true) hl gc_pnX7 rfl gb_oX7 gc_rk_X7_becomeEmpty gb_nX7 hM gc_ck_X7_becomeEmpty (t_X7_becomeEmpty σ _ (e_X7_becomeEmpty σ)) gc_hoV rfl (fun v hv => by cases hv; rfl) (Nat.le_of_ble_eq_true rfl) rfl
  · cases hg
theorem gc_rk_X10_isLetter : cl_X10_isLetter.all (gb_rk gb_flX10 gb_slX10 gb_nlX10 gb_llX10 gb_tlX10 cX10_isLetter) = true := by decide +kernel
theorem gc_ck_X10_isLetter : cl_X10_isLetter.all (gc_ck gb_lkX10 gb_lnX10 [] 0) = true := by decide +kernel
theorem gm_9 (hl : l.stackTraces = false) : gc_MM l D cA ad A adV 9 := by
  refine ⟨gb_T9, fun h => absurd h (by decide +kernel), fun as σ o hg => ?_⟩
  have hM : ∀ mid ∈ ([] : List Nat), gc_MM l D cA ad A adV mid := (fun _ h => nomatch h)
  replace hg : c_X10_isLetter as gaSH σ some = some o := hg
  unfold c_X10_isLetter at hg
  split at hg
  · skip
    rename_i a
    obtain rfl := Option.some.inj hg
    exact gc_metP (maxL := 1) (lf := true) hl gc_pnX10 rfl gb_oX10 gc_rk_X10_isLetter gb_nX10 hM gc_ck_X10_isLetter (t_X10_isLetter a σ _ (e_X10_isLetter a σ)) gd_hoI rfl (fun v hv => by cases hv; exact Or.inr ⟨rfl, z_X10_isLetter a σ⟩) (Nat.le_of_ble_eq_true rfl) rfl
  · cases hg
theorem gc_rk_X10_isDigit : cl_X10_isDigit.all (gb_rk gb_flX10 gb_slX10 gb_nlX10 gb_llX10 gb_tlX10 cX10_isDigit) = true := by decide +kernel
theorem gc_ck_X10_isDigit : cl_X10_isDigit.all (gc_ck gb_lkX10 gb_lnX10 [] 0) = true := by decide +kernel
theorem gm_10 (hl : l.stackTraces = false) : gc_MM l D cA ad A adV 10 := by
  refine ⟨gb_T10, fun h => absurd h (by decide +kernel), fun as σ o hg => ?_⟩
  have hM : ∀ mid ∈ ([] : List Nat), gc_MM l D cA ad A adV mid := (fun _ h => nomatch h)
  replace hg : c_X10_isDigit as gaSH σ some = some o := hg
  unfold c_X10_isDigit at hg
  split at hg
  · skip
    rename_i a
    obtain rfl := Option.some.inj hg
    exact gc_metP (maxL := 1) (lf := true) hl gc_pnX10 rfl gb_oX10 gc_rk_X10_isDigit gb_nX10 hM gc_ck_X10_isDigit (t_X10_isDigit a σ _ (e_X10_isDigit a σ)) gd_hoI rfl (fun v hv => by cases hv; exact Or.inr ⟨rfl, z_X10_isDigit a σ⟩) (Nat.le_of_ble_eq_true rfl) rfl
  · cases hg
theorem gc_rk_X10_fail : cl_X10_fail.all (gb_rk gb_flX10 gb_slX10 gb_nlX10 gb_llX10 gb_tlX10 cX10_fail) = true := by decide +kernel
theorem gc_ck_X10_fail : cl_X10_fail.all (gc_ck gb_lkX10 gb_lnX10 [] 0) = true := by decide +kernel
theorem gm_17 (hl : l.stackTraces = false) : gc_MM l D cA ad A adV 17 := by
  refine ⟨gb_T17, fun h => absurd h (by decide +kernel), fun as σ o hg => ?_⟩
  have hM : ∀ mid ∈ ([] : List Nat), gc_MM l D cA ad A adV mid := (fun _ h => nomatch h)
  replace hg : c_X10_fail as gaSH σ some = some o := hg
  unfold c_X10_fail at hg
  split at hg
  · skip
    rename_i r0 a b
    obtain ⟨hb, hg⟩ := gc_bif hg
    obtain rfl := Nat.eq_of_beq_eq_true hb
    obtain rfl := Option.some.inj hg
    exact gc_metG (maxL := 3) (lf := true) hl gc_pnX10 rfl gb_oX10 gc_rk_X10_fail gb_nX10 hM gc_ck_X10_fail (t_X10_fail a b σ _ (e_X10_fail a b σ)) gc_hoI rfl (fun v hv => by cases hv; exact Or.inr ⟨rfl, z_X10_fail a b σ⟩) (Nat.le_of_ble_eq_true rfl) rfl
  · cases hg
theorem gc_rk_X11_hasBit : cl_X11_hasBit.all (gb_rk gb_flX11 gb_slX11 gb_nlX11 gb_llX11 gb_tlX11 cX11_hasBit) = true := by decide +kernel
theorem gc_ck_X11_hasBit : cl_X11_hasBit.all (gc_ck gb_lkX11 gb_lnX11 [] 0) = true := by decide +kernel
theorem gm_27 (hl : l.stackTraces = false) : gc_MM l D cA ad A adV 27 := by
  refine ⟨gb_T27, fun h => absurd h (by decide +kernel), fun as σ o hg => ?_⟩
  have hM : ∀ mid ∈ ([] : List Nat), gc_MM l D cA ad A adV mid := (fun _ h => nomatch h)
  replace hg : c_X11_hasBit as gaSH σ some = some o := hg
  unfold c_X11_hasBit at hg
  split at hg
  · skip
    rename_i a b
    obtain rfl := Option.some.inj hg
    exact gc_metP (maxL := 2) (lf := true) hl gc_pnX11 rfl gb_oX11 gc_rk_X11_hasBit gb_nX11 hM gc_ck_X11_hasBit (t_X11_hasBit a b σ _ (e_X11_hasBit a b σ)) gd_hoI rfl (fun v hv => by cases hv; exact Or.inr ⟨rfl, z_X11_hasBit a b σ⟩) (Nat.le_of_ble_eq_true rfl) rfl
  · cases hg
theorem gc_rk_X7_slots : cl_X7_slots.all (gb_rk gb_flX7 gb_slX7 gb_nlX7 gb_llX7 gb_tlX7 cX7_slots) = true := by decide +kernel
theorem gc_ck_X7_slots : cl_X7_slots.all (gc_ck gb_lkX7 gb_lnX7 [] 0) = true := by decide +kernel
theorem gm_33 (hl : l.stackTraces = false) : gc_MM l D cA ad A adV 33 := by
  refine ⟨gb_T33, fun h => absurd h (by decide +kernel), fun as σ o hg => ?_⟩
  have hM : ∀ mid ∈ ([] : List Nat), gc_MM l D cA ad A adV mid := (fun _ h => nomatch h)
  replace hg : c_X7_slots as gaSH σ some = some o := hg
  unfold c_X7_slots at hg
  split at hg
  · skip
    rename_i r0
    rcases gc_bif2 hg with ⟨hb, hg⟩ | hg
    · skip
      obtain rfl := Nat.eq_of_beq_eq_true hb
      obtain rfl := Option.some.inj hg
      exact gc_metP (maxL := 1) (lf := true) hl gc_pnX7 rfl gb_oX7 gc_rk_X7_slots gb_nX7 hM gc_ck_X7_slots (t_X7_slots_49 σ _ (e_X7_slots_49 σ)) gd_hoI rfl (fun v hv => by cases hv; exact Or.inl rfl) (Nat.le_of_ble_eq_true rfl) rfl
    · skip
      obtain ⟨hb, hg⟩ := gc_bif hg
      obtain rfl := Nat.eq_of_beq_eq_true hb
      obtain rfl := Option.some.inj hg
      exact gc_metP (maxL := 1) (lf := true) hl gc_pnX7 rfl gb_oX7 gc_rk_X7_slots gb_nX7 hM gc_ck_X7_slots (t_X7_slots σ _ (e_X7_slots σ)) gd_hoI rfl (fun v hv => by cases hv; exact Or.inl rfl) (Nat.le_of_ble_eq_true rfl) rfl
  · cases hg
theorem gc_rk_X7_hasTeacher : cl_X7_hasTeacher.all (gb_rk gb_flX7 gb_slX7 gb_nlX7 gb_llX7 gb_tlX7 cX7_hasTeacher) = true := by decide +kernel
theorem gc_ck_X7_hasTeacher : cl_X7_hasTeacher.all (gc_ck gb_lkX7 gb_lnX7 [] 0) = true := by decide +kernel
theorem gm_36 (hl : l.stackTraces = false) : gc_MM l D cA ad A adV 36 := by
  refine ⟨gb_T36, fun h => absurd h (by decide +kernel), fun as σ o hg => ?_⟩
  have hM : ∀ mid ∈ ([] : List Nat), gc_MM l D cA ad A adV mid := (fun _ h => nomatch h)
  replace hg : c_X7_hasTeacher as gaSH σ some = some o := hg
  unfold c_X7_hasTeacher at hg
  split at hg
  · skip
    rename_i r0 a
    rcases gc_bif2 hg with ⟨hb, hg⟩ | hg
    · skip
      obtain rfl := Nat.eq_of_beq_eq_true hb
      obtain rfl := Option.some.inj hg
      exact gc_metP (maxL := 2) (lf := true) hl gc_pnX7 rfl gb_oX7 gc_rk_X7_hasTeacher gb_nX7 hM gc_ck_X7_hasTeacher (t_X7_hasTeacher_49 a σ _ (e_X7_hasTeacher_49 a σ)) gd_hoI rfl (fun v hv => by cases hv; exact Or.inr ⟨rfl, z_X7_hasTeacher_49 a σ⟩) (Nat.le_of_ble_eq_true rfl) rfl
    · skip
      obtain ⟨hb, hg⟩ := gc_bif hg
      obtain rfl := Nat.eq_of_beq_eq_true hb
      obtain rfl := Option.some.inj hg
      exact gc_metP (maxL := 2) (lf := true) hl gc_pnX7 rfl gb_oX7 gc_rk_X7_hasTeacher gb_nX7 hM gc_ck_X7_hasTeacher (t_X7_hasTeacher a σ _ (e_X7_hasTeacher a σ)) gd_hoI rfl (fun v hv => by cases hv; exact Or.inr ⟨rfl, z_X7_hasTeacher a σ⟩) (Nat.le_of_ble_eq_true rfl) rfl
  · cases hg
theorem gc_rk_X7_dayOf : cl_X7_dayOf.all (gb_rk gb_flX7 gb_slX7 gb_nlX7 gb_llX7 gb_tlX7 cX7_dayOf) = true := by decide +kernel
theorem gc_ck_X7_dayOf : cl_X7_dayOf.all (gc_ck gb_lkX7 gb_lnX7 [] 0) = true := by decide +kernel
theorem gm_43 (hl : l.stackTraces = false) : gc_MM l D cA ad A adV 43 := by
  refine ⟨gb_T43, fun h => absurd h (by decide +kernel), fun as σ o hg => ?_⟩
  have hM : ∀ mid ∈ ([] : List Nat), gc_MM l D cA ad A adV mid := (fun _ h => nomatch h)
  replace hg : c_X7_dayOf as gaSH σ some = some o := hg
  unfold c_X7_dayOf at hg
  split at hg
  · skip
    rename_i r0 a
    obtain ⟨hb, hg⟩ := gc_bif hg
    obtain rfl := Nat.eq_of_beq_eq_true hb
    obtain ⟨q, hq, hg⟩ := gc_bind hg
    obtain rfl := Option.some.inj hg
    exact gc_metP (maxL := 2) (lf := true) hl gc_pnX7 rfl gb_oX7 gc_rk_X7_dayOf gb_nX7 hM gc_ck_X7_dayOf (t_X7_dayOf a σ _ hq) gd_hoI rfl (fun v hv => by cases hv; exact Or.inl rfl) (Nat.le_of_ble_eq_true rfl) rfl
  · cases hg
theorem gc_rk_X1_forget : cl_X1_forget.all (gb_rk gb_flX1 gb_slX1 gb_nlX1 gb_llX1 gb_tlX1 cX1_forget) = true := by decide +kernel
theorem gc_ck_X1_forget : cl_X1_forget.all (gc_ck gb_lkX1 gb_lnX1 [] 0) = true := by decide +kernel
theorem gm_48 (hl : l.stackTraces = false) : gc_MM l D cA ad A adV 48 := by
  refine ⟨gb_T48, fun h => absurd h (by decide +kernel), fun as σ o hg => ?_⟩
  have hM : ∀ mid ∈ ([] : List Nat), gc_MM l D cA ad A adV mid := (fun _ h => nomatch h)
  replace hg : c_X1_forget as gaSH σ some = some o := hg
  unfold c_X1_forget at hg
  split at hg
  · skip
    rename_i r0
    obtain ⟨hb, hg⟩ := gc_bif hg
    obtain rfl := Nat.eq_of_beq_eq_true hb
    obtain rfl := Option.some.inj hg
    exact gc_metG (maxL := 1) (lf := true) hl gc_pnX1 rfl gb_oX1 gc_rk_X1_forget gb_nX1 hM gc_ck_X1_forget (t_X1_forget σ _ (e_X1_forget σ)) gc_hoV rfl (fun v hv => by cases hv; rfl) (Nat.le_of_ble_eq_true rfl) rfl
  · cases hg
theorem gc_rk_X7_hasDay : cl_X7_hasDay.all (gb_rk gb_flX7 gb_slX7 gb_nlX7 gb_llX7 gb_tlX7 cX7_hasDay) = true := by decide +kernel
theorem gc_ck_X7_hasDay : cl_X7_hasDay.all (gc_ck gb_lkX7 gb_lnX7 [] 0) = true := by decide +kernel
theorem gm_50 (hl : l.stackTraces = false) : gc_MM l D cA ad A adV 50 := by
  refine ⟨gb_T50, fun h => absurd h (by decide +kernel), fun as σ o hg => ?_⟩
  have hM : ∀ mid ∈ ([] : List Nat), gc_MM l D cA ad A adV mid := (fun _ h => nomatch h)
  replace hg : c_X7_hasDay as gaSH σ some = some o := hg
  unfold c_X7_hasDay at hg
  split at hg
  · skip
    rename_i r0 a
    obtain ⟨hb, hg⟩ := gc_bif hg
    obtain rfl := Nat.eq_of_beq_eq_true hb
    obtain rfl := Option.some.inj hg
    exact gc_metP (maxL := 2) (lf := true) hl gc_pnX7 rfl gb_oX7 gc_rk_X7_hasDay gb_nX7 hM gc_ck_X7_hasDay (t_X7_hasDay a σ _ (e_X7_hasDay a σ)) gd_hoI rfl (fun v hv => by cases hv; exact Or.inr ⟨rfl, z_X7_hasDay a σ⟩) (Nat.le_of_ble_eq_true rfl) rfl
  · cases hg
theorem gc_rk_X1_baseOf : cl_X1_baseOf.all (gb_rk gb_flX1 gb_slX1 gb_nlX1 gb_llX1 gb_tlX1 cX1_baseOf) = true := by decide +kernel
theorem gc_ck_X1_baseOf : cl_X1_baseOf.all (gc_ck gb_lkX1 gb_lnX1 [] 0) = true := by decide +kernel
theorem gm_51 (hl : l.stackTraces = false) : gc_MM l D cA ad A adV 51 := by
  refine ⟨gb_T51, fun h => absurd h (by decide +kernel), fun as σ o hg => ?_⟩
  have hM : ∀ mid ∈ ([] : List Nat), gc_MM l D cA ad A adV mid := (fun _ h => nomatch h)
  replace hg : c_X1_baseOf as gaSH σ some = some o := hg
  unfold c_X1_baseOf at hg
  split at hg
  · skip
    rename_i r0 a
    obtain ⟨hb, hg⟩ := gc_bif hg
    obtain rfl := Nat.eq_of_beq_eq_true hb
    obtain ⟨q, hq, hg⟩ := gc_bind hg
    obtain rfl := Option.some.inj hg
    exact gc_metP (maxL := 2) (lf := true) hl gc_pnX1 rfl gb_oX1 gc_rk_X1_baseOf gb_nX1 hM gc_ck_X1_baseOf (t_X1_baseOf a σ _ hq) gd_hoI rfl (fun v hv => by cases hv; exact Or.inl rfl) (Nat.le_of_ble_eq_true rfl) rfl
  · cases hg
theorem gc_rk_X1_keepMarked : cl_X1_keepMarked.all (gb_rk gb_flX1 gb_slX1 gb_nlX1 gb_llX1 gb_tlX1 cX1_keepMarked) = true := by decide +kernel
theorem gc_ck_X1_keepMarked : cl_X1_keepMarked.all (gc_ck gb_lkX1 gb_lnX1 [] 0) = true := by decide +kernel
theorem gm_55 (hl : l.stackTraces = false) : gc_MM l D cA ad A adV 55 := by
  refine ⟨gb_T55, fun h => absurd h (by decide +kernel), fun as σ o hg => ?_⟩
  have hM : ∀ mid ∈ ([] : List Nat), gc_MM l D cA ad A adV mid := (fun _ h => nomatch h)
  replace hg : c_X1_keepMarked as gaSH σ some = some o := hg
  unfold c_X1_keepMarked at hg
  split at hg
  · skip
    rename_i r0
    obtain ⟨hb, hg⟩ := gc_bif hg
    obtain rfl := Nat.eq_of_beq_eq_true hb
    obtain ⟨q, hq, hg⟩ := gc_bind hg
    obtain rfl := Option.some.inj hg
    exact gc_metG (maxL := 1) (lf := true) hl gc_pnX1 rfl gb_oX1 gc_rk_X1_keepMarked gb_nX1 hM gc_ck_X1_keepMarked (t_X1_keepMarked σ _ hq) gc_hoV rfl (fun v hv => by cases hv; rfl) (Nat.le_of_ble_eq_true rfl) rfl
  · cases hg
theorem gc_rk_X7_hasLesson : cl_X7_hasLesson.all (gb_rk gb_flX7 gb_slX7 gb_nlX7 gb_llX7 gb_tlX7 cX7_hasLesson) = true := by decide +kernel
theorem gc_ck_X7_hasLesson : cl_X7_hasLesson.all (gc_ck gb_lkX7 gb_lnX7 [] 0) = true := by decide +kernel
theorem gm_56 (hl : l.stackTraces = false) : gc_MM l D cA ad A adV 56 := by
  refine ⟨gb_T56, fun h => absurd h (by decide +kernel), fun as σ o hg => ?_⟩
  have hM : ∀ mid ∈ ([] : List Nat), gc_MM l D cA ad A adV mid := (fun _ h => nomatch h)
  replace hg : c_X7_hasLesson as gaSH σ some = some o := hg
  unfold c_X7_hasLesson at hg
  split at hg
  · skip
    rename_i r0 a
    obtain ⟨hb, hg⟩ := gc_bif hg
    obtain rfl := Nat.eq_of_beq_eq_true hb
    obtain rfl := Option.some.inj hg
    exact gc_metP (maxL := 2) (lf := true) hl gc_pnX7 rfl gb_oX7 gc_rk_X7_hasLesson gb_nX7 hM gc_ck_X7_hasLesson (t_X7_hasLesson a σ _ (e_X7_hasLesson a σ)) gd_hoI rfl (fun v hv => by cases hv; exact Or.inr ⟨rfl, z_X7_hasLesson a σ⟩) (Nat.le_of_ble_eq_true rfl) rfl
  · cases hg
theorem gc_rk_X7_hasRoom : cl_X7_hasRoom.all (gb_rk gb_flX7 gb_slX7 gb_nlX7 gb_llX7 gb_tlX7 cX7_hasRoom) = true := by decide +kernel
theorem gc_ck_X7_hasRoom : cl_X7_hasRoom.all (gc_ck gb_lkX7 gb_lnX7 [] 0) = true := by decide +kernel
theorem gm_90 (hl : l.stackTraces = false) : gc_MM l D cA ad A adV 90 := by
  refine ⟨gb_T90, fun h => absurd h (by decide +kernel), fun as σ o hg => ?_⟩
  have hM : ∀ mid ∈ ([] : List Nat), gc_MM l D cA ad A adV mid := (fun _ h => nomatch h)
  replace hg : c_X7_hasRoom as gaSH σ some = some o := hg
  unfold c_X7_hasRoom at hg
  split at hg
  · skip
    rename_i r0 a
    obtain ⟨hb, hg⟩ := gc_bif hg
    obtain rfl := Nat.eq_of_beq_eq_true hb
    obtain rfl := Option.some.inj hg
    exact gc_metP (maxL := 2) (lf := true) hl gc_pnX7 rfl gb_oX7 gc_rk_X7_hasRoom gb_nX7 hM gc_ck_X7_hasRoom (t_X7_hasRoom a σ _ (e_X7_hasRoom a σ)) gd_hoI rfl (fun v hv => by cases hv; exact Or.inr ⟨rfl, z_X7_hasRoom a σ⟩) (Nat.le_of_ble_eq_true rfl) rfl
  · cases hg
theorem gc_rk_X11_undoDepth : cl_X11_undoDepth.all (gb_rk gb_flX11 gb_slX11 gb_nlX11 gb_llX11 gb_tlX11 cX11_undoDepth) = true := by decide +kernel
theorem gc_ck_X11_undoDepth : cl_X11_undoDepth.all (gc_ck gb_lkX11 gb_lnX11 [] 0) = true := by decide +kernel
theorem gm_111 (hl : l.stackTraces = false) : gc_MM l D cA ad A adV 111 := by
  refine ⟨gb_T111, fun h => absurd h (by decide +kernel), fun as σ o hg => ?_⟩
  have hM : ∀ mid ∈ ([] : List Nat), gc_MM l D cA ad A adV mid := (fun _ h => nomatch h)
  replace hg : c_X11_undoDepth as gaSH σ some = some o := hg
  unfold c_X11_undoDepth at hg
  split at hg
  · skip
    rename_i r0
    obtain ⟨hb, hg⟩ := gc_bif hg
    obtain rfl := Nat.eq_of_beq_eq_true hb
    obtain rfl := Option.some.inj hg
    exact gc_metP (maxL := 1) (lf := true) hl gc_pnX11 rfl gb_oX11 gc_rk_X11_undoDepth gb_nX11 hM gc_ck_X11_undoDepth (t_X11_undoDepth σ _ (e_X11_undoDepth σ)) gd_hoI rfl (fun v hv => by cases hv; exact Or.inl rfl) (Nat.le_of_ble_eq_true rfl) rfl
  · cases hg
theorem gc_rk_X10_append : cl_X10_append.all (gb_rk gb_flX10 gb_slX10 gb_nlX10 gb_llX10 gb_tlX10 cX10_append) = true := by decide +kernel
theorem gc_ck_X10_append : cl_X10_append.all (gc_ck gb_lkX10 gb_lnX10 [2] 1) = true := by decide +kernel
theorem gm_6 (hl : l.stackTraces = false) : gc_MM l D cA ad A adV 6 := by
  refine ⟨gb_T6, fun h => absurd h (by decide +kernel), fun as σ o hg => ?_⟩
  have hM : ∀ mid ∈ ([2] : List Nat), gc_MM l D cA ad A adV mid := (List.forall_mem_cons.mpr ⟨gm_2 hl, fun _ h => nomatch h⟩)
  replace hg : c_X10_append as gaSH σ some = some o := hg
  unfold c_X10_append at hg
  split at hg
  · skip
    rename_i r0 a
    obtain ⟨hb, hg⟩ := gc_bif hg
    obtain rfl := Nat.eq_of_beq_eq_true hb
    obtain ⟨q, hq, hg⟩ := gc_bind hg
    obtain rfl := Option.some.inj hg
    exact gc_metG (maxL := 3) (lf := true) hl gc_pnX10 rfl gb_oX10 gc_rk_X10_append gb_nX10 hM gc_ck_X10_append (t_X10_append a σ _ hq) gc_hoV rfl (fun v hv => by cases hv; rfl) (Nat.le_of_ble_eq_true rfl) rfl
  · cases hg
theorem gc_rk_X10_afterBlanks : cl_X10_afterBlanks.all (gb_rk gb_flX10 gb_slX10 gb_nlX10 gb_llX10 gb_tlX10 cX10_afterBlanks) = true := by decide +kernel
theorem gc_ck_X10_afterBlanks : cl_X10_afterBlanks.all (gc_ck gb_lkX10 gb_lnX10 [1] 1) = true := by decide +kernel
theorem gm_8 (hl : l.stackTraces = false) : gc_MM l D cA ad A adV 8 := by
  refine ⟨gb_T8, fun h => absurd h (by decide +kernel), fun as σ o hg => ?_⟩
  have hM : ∀ mid ∈ ([1] : List Nat), gc_MM l D cA ad A adV mid := (List.forall_mem_cons.mpr ⟨gm_1 hl, fun _ h => nomatch h⟩)
  replace hg : c_X10_afterBlanks as gaSH σ some = some o := hg
  unfold c_X10_afterBlanks at hg
  split at hg
  · skip
    rename_i r0 a
    obtain ⟨hb, hg⟩ := gc_bif hg
    obtain rfl := Nat.eq_of_beq_eq_true hb
    obtain ⟨q, hq, hg⟩ := gc_bind hg
    obtain rfl := Option.some.inj hg
    exact gc_metP (maxL := 3) (lf := true) hl gc_pnX10 rfl gb_oX10 gc_rk_X10_afterBlanks gb_nX10 hM gc_ck_X10_afterBlanks (t_X10_afterBlanks a σ _ hq) gd_hoI rfl (fun v hv => by cases hv; exact Or.inl rfl) (Nat.le_of_ble_eq_true rfl) rfl
  · cases hg
theorem gc_rk_X10_afterDigits : cl_X10_afterDigits.all (gb_rk gb_flX10 gb_slX10 gb_nlX10 gb_llX10 gb_tlX10 cX10_afterDigits) = true := by decide +kernel
theorem gc_ck_X10_afterDigits : cl_X10_afterDigits.all (gc_ck gb_lkX10 gb_lnX10 [1, 10] 1) = true := by decide +kernel
theorem gm_12 (hl : l.stackTraces = false) : gc_MM l D cA ad A adV 12 := by
  refine ⟨gb_T12, fun h => absurd h (by decide +kernel), fun as σ o hg => ?_⟩
  have hM : ∀ mid ∈ ([1, 10] : List Nat), gc_MM l D cA ad A adV mid := (List.forall_mem_cons.mpr ⟨gm_1 hl, List.forall_mem_cons.mpr ⟨gm_10 hl, fun _ h => nomatch h⟩⟩)
  replace hg : c_X10_afterDigits as gaSH σ some = some o := hg
  unfold c_X10_afterDigits at hg
  split at hg
  · skip
    rename_i r0 a
    obtain ⟨hb, hg⟩ := gc_bif hg
    obtain rfl := Nat.eq_of_beq_eq_true hb
    obtain ⟨q, hq, hg⟩ := gc_bind hg
    obtain rfl := Option.some.inj hg
    exact gc_metG (maxL := 3) (lf := true) hl gc_pnX10 rfl gb_oX10 gc_rk_X10_afterDigits gb_nX10 hM gc_ck_X10_afterDigits (t_X10_afterDigits a σ _ hq) gc_hoI rfl (fun v hv => by cases hv; exact Or.inl rfl) (Nat.le_of_ble_eq_true rfl) rfl
  · cases hg
theorem gc_rk_X10_afterLetters : cl_X10_afterLetters.all (gb_rk gb_flX10 gb_slX10 gb_nlX10 gb_llX10 gb_tlX10 cX10_afterLetters) = true := by decide +kernel
theorem gc_ck_X10_afterLetters : cl_X10_afterLetters.all (gc_ck gb_lkX10 gb_lnX10 [1, 9] 1) = true := by decide +kernel
theorem gm_13 (hl : l.stackTraces = false) : gc_MM l D cA ad A adV 13 := by
  refine ⟨gb_T13, fun h => absurd h (by decide +kernel), fun as σ o hg => ?_⟩
  have hM : ∀ mid ∈ ([1, 9] : List Nat), gc_MM l D cA ad A adV mid := (List.forall_mem_cons.mpr ⟨gm_1 hl, List.forall_mem_cons.mpr ⟨gm_9 hl, fun _ h => nomatch h⟩⟩)
  replace hg : c_X10_afterLetters as gaSH σ some = some o := hg
  unfold c_X10_afterLetters at hg
  split at hg
  · skip
    rename_i r0 a
    obtain ⟨hb, hg⟩ := gc_bif hg
    obtain rfl := Nat.eq_of_beq_eq_true hb
    obtain ⟨q, hq, hg⟩ := gc_bind hg
    obtain rfl := Option.some.inj hg
    exact gc_metP (maxL := 3) (lf := true) hl gc_pnX10 rfl gb_oX10 gc_rk_X10_afterLetters gb_nX10 hM gc_ck_X10_afterLetters (t_X10_afterLetters a σ _ hq) gd_hoI rfl (fun v hv => by cases hv; exact Or.inl rfl) (Nat.le_of_ble_eq_true rfl) rfl
  · cases hg
theorem gc_rk_X8_fail : cl_X8_fail.all (gb_rk gb_flX8 gb_slX8 gb_nlX8 gb_llX8 gb_tlX8 cX8_fail) = true := by decide +kernel
theorem gc_ck_X8_fail : cl_X8_fail.all (gc_ck gb_lkX8 gb_lnX8 [17] 1) = true := by decide +kernel
theorem gm_18 (hl : l.stackTraces = false) : gc_MM l D cA ad A adV 18 := by
  refine ⟨gb_T18, fun h => absurd h (by decide +kernel), fun as σ o hg => ?_⟩
  have hM : ∀ mid ∈ ([17] : List Nat), gc_MM l D cA ad A adV mid := (List.forall_mem_cons.mpr ⟨gm_17 hl, fun _ h => nomatch h⟩)
  replace hg : c_X8_fail as gaSH σ some = some o := hg
  unfold c_X8_fail at hg
  split at hg
  · skip
    rename_i r0 a
    obtain ⟨hb, hg⟩ := gc_bif hg
    obtain rfl := Nat.eq_of_beq_eq_true hb
    obtain rfl := Option.some.inj hg
    exact gc_metG (maxL := 2) (lf := true) hl gc_pnX8 rfl gb_oX8 gc_rk_X8_fail gb_nX8 hM gc_ck_X8_fail (t_X8_fail a σ _ (e_X8_fail a σ)) gc_hoI rfl (fun v hv => by cases hv; exact Or.inr ⟨rfl, z_X8_fail a σ⟩) (Nat.le_of_ble_eq_true rfl) rfl
  · cases hg
theorem gc_rk_X7_addSubject : cl_X7_addSubject.all (gb_rk gb_flX7 gb_slX7 gb_nlX7 gb_llX7 gb_tlX7 cX7_addSubject) = true := by decide +kernel
theorem gc_ck_X7_addSubject : cl_X7_addSubject.all (gc_ck gb_lkX7 gb_lnX7 [2] 1) = true := by decide +kernel
theorem gm_24 (hl : l.stackTraces = false) : gc_MM l D cA ad A adV 24 := by
  refine ⟨gb_T24, fun h => absurd h (by decide +kernel), fun as σ o hg => ?_⟩
  have hM : ∀ mid ∈ ([2] : List Nat), gc_MM l D cA ad A adV mid := (List.forall_mem_cons.mpr ⟨gm_2 hl, fun _ h => nomatch h⟩)
  replace hg : c_X7_addSubject as gaSH σ some = some o := hg
  unfold c_X7_addSubject at hg
  split at hg
  · skip
    rename_i r0 a
    rcases gc_bif2 hg with ⟨hb, hg⟩ | hg
    · skip
      obtain rfl := Nat.eq_of_beq_eq_true hb
      obtain rfl := Option.some.inj hg
      exact gc_metG (maxL := 2) (lf := true) hl gc_pnX7 rfl gb_oX7 gc_rk_X7_addSubject gb_nX7 hM gc_ck_X7_addSubject (t_X7_addSubject_49 a σ _ (e_X7_addSubject_49 a σ)) gc_hoV rfl (fun v hv => by cases hv; rfl) (Nat.le_of_ble_eq_true rfl) rfl
    · skip
      obtain ⟨hb, hg⟩ := gc_bif hg
      obtain rfl := Nat.eq_of_beq_eq_true hb
      obtain rfl := Option.some.inj hg
      exact gc_metG (maxL := 2) (lf := true) hl gc_pnX7 rfl gb_oX7 gc_rk_X7_addSubject gb_nX7 hM gc_ck_X7_addSubject (t_X7_addSubject a σ _ (e_X7_addSubject a σ)) gc_hoV rfl (fun v hv => by cases hv; rfl) (Nat.le_of_ble_eq_true rfl) rfl
  · cases hg
theorem gc_rk_X7_addTeacher : cl_X7_addTeacher.all (gb_rk gb_flX7 gb_slX7 gb_nlX7 gb_llX7 gb_tlX7 cX7_addTeacher) = true := by decide +kernel
theorem gc_ck_X7_addTeacher : cl_X7_addTeacher.all (gc_ck gb_lkX7 gb_lnX7 [2] 1) = true := by decide +kernel
theorem gm_26 (hl : l.stackTraces = false) : gc_MM l D cA ad A adV 26 := by
  refine ⟨gb_T26, fun h => absurd h (by decide +kernel), fun as σ o hg => ?_⟩
  have hM : ∀ mid ∈ ([2] : List Nat), gc_MM l D cA ad A adV mid := (List.forall_mem_cons.mpr ⟨gm_2 hl, fun _ h => nomatch h⟩)
  replace hg : c_X7_addTeacher as gaSH σ some = some o := hg
  unfold c_X7_addTeacher at hg
  split at hg
  · skip
    rename_i r0 a b
    rcases gc_bif2 hg with ⟨hb, hg⟩ | hg
    · skip
      obtain rfl := Nat.eq_of_beq_eq_true hb
      obtain rfl := Option.some.inj hg
      exact gc_metG (maxL := 3) (lf := true) hl gc_pnX7 rfl gb_oX7 gc_rk_X7_addTeacher gb_nX7 hM gc_ck_X7_addTeacher (t_X7_addTeacher_49 a b σ _ (e_X7_addTeacher_49 a b σ)) gc_hoV rfl (fun v hv => by cases hv; rfl) (Nat.le_of_ble_eq_true rfl) rfl
    · skip
      obtain ⟨hb, hg⟩ := gc_bif hg
      obtain rfl := Nat.eq_of_beq_eq_true hb
      obtain rfl := Option.some.inj hg
      exact gc_metG (maxL := 3) (lf := true) hl gc_pnX7 rfl gb_oX7 gc_rk_X7_addTeacher gb_nX7 hM gc_ck_X7_addTeacher (t_X7_addTeacher a b σ _ (e_X7_addTeacher a b σ)) gc_hoV rfl (fun v hv => by cases hv; rfl) (Nat.le_of_ble_eq_true rfl) rfl
  · cases hg
theorem gc_rk_X7_addRoom : cl_X7_addRoom.all (gb_rk gb_flX7 gb_slX7 gb_nlX7 gb_llX7 gb_tlX7 cX7_addRoom) = true := by decide +kernel
theorem gc_ck_X7_addRoom : cl_X7_addRoom.all (gc_ck gb_lkX7 gb_lnX7 [2] 1) = true := by decide +kernel
theorem gm_30 (hl : l.stackTraces = false) : gc_MM l D cA ad A adV 30 := by
  refine ⟨gb_T30, fun h => absurd h (by decide +kernel), fun as σ o hg => ?_⟩
  have hM : ∀ mid ∈ ([2] : List Nat), gc_MM l D cA ad A adV mid := (List.forall_mem_cons.mpr ⟨gm_2 hl, fun _ h => nomatch h⟩)
  replace hg : c_X7_addRoom as gaSH σ some = some o := hg
  unfold c_X7_addRoom at hg
  split at hg
  · skip
    rename_i r0 a
    rcases gc_bif2 hg with ⟨hb, hg⟩ | hg
    · skip
      obtain rfl := Nat.eq_of_beq_eq_true hb
      obtain rfl := Option.some.inj hg
      exact gc_metG (maxL := 2) (lf := true) hl gc_pnX7 rfl gb_oX7 gc_rk_X7_addRoom gb_nX7 hM gc_ck_X7_addRoom (t_X7_addRoom_49 a σ _ (e_X7_addRoom_49 a σ)) gc_hoV rfl (fun v hv => by cases hv; rfl) (Nat.le_of_ble_eq_true rfl) rfl
    · skip
      obtain ⟨hb, hg⟩ := gc_bif hg
      obtain rfl := Nat.eq_of_beq_eq_true hb
      obtain rfl := Option.some.inj hg
      exact gc_metG (maxL := 2) (lf := true) hl gc_pnX7 rfl gb_oX7 gc_rk_X7_addRoom gb_nX7 hM gc_ck_X7_addRoom (t_X7_addRoom a σ _ (e_X7_addRoom a σ)) gc_hoV rfl (fun v hv => by cases hv; rfl) (Nat.le_of_ble_eq_true rfl) rfl
  · cases hg
theorem gc_rk_X7_isTakenAtFirst : cl_X7_isTakenAtFirst.all (gb_rk gb_flX7 gb_slX7 gb_nlX7 gb_llX7 gb_tlX7 cX7_isTakenAtFirst) = true := by decide +kernel
theorem gc_ck_X7_isTakenAtFirst : cl_X7_isTakenAtFirst.all (gc_ck gb_lkX7 gb_lnX7 [1] 1) = true := by decide +kernel
theorem gm_34 (hl : l.stackTraces = false) : gc_MM l D cA ad A adV 34 := by
  refine ⟨gb_T34, fun h => absurd h (by decide +kernel), fun as σ o hg => ?_⟩
  have hM : ∀ mid ∈ ([1] : List Nat), gc_MM l D cA ad A adV mid := (List.forall_mem_cons.mpr ⟨gm_1 hl, fun _ h => nomatch h⟩)
  replace hg : c_X7_isTakenAtFirst as gaSH σ some = some o := hg
  unfold c_X7_isTakenAtFirst at hg
  split at hg
  · skip
    rename_i r0 a r1 b
    rcases gc_bif2 hg with ⟨hb, hg⟩ | hg
    · skip
      obtain ⟨hb0, hb1⟩ := Bool.and_eq_true_iff.mp hb
      obtain rfl := Nat.eq_of_beq_eq_true hb0
      obtain rfl := Nat.eq_of_beq_eq_true hb1
      obtain ⟨q, hq, hg⟩ := gc_bind hg
      obtain rfl := Option.some.inj hg
      exact gc_metP (maxL := 5) (lf := true) hl gc_pnX7 rfl gb_oX7 gc_rk_X7_isTakenAtFirst gb_nX7 hM gc_ck_X7_isTakenAtFirst (t_X7_isTakenAtFirst_49_58 a b σ _ hq) gd_hoI rfl (fun v hv => by cases hv; exact Or.inr ⟨rfl, z_X7_isTakenAtFirst_49_58 a b σ _ hq⟩) (Nat.le_of_ble_eq_true rfl) rfl
    · skip
      rcases gc_bif2 hg with ⟨hb, hg⟩ | hg
      · skip
        obtain ⟨hb0, hb1⟩ := Bool.and_eq_true_iff.mp hb
        obtain rfl := Nat.eq_of_beq_eq_true hb0
        obtain rfl := Nat.eq_of_beq_eq_true hb1
        obtain ⟨q, hq, hg⟩ := gc_bind hg
        obtain rfl := Option.some.inj hg
        exact gc_metP (maxL := 5) (lf := true) hl gc_pnX7 rfl gb_oX7 gc_rk_X7_isTakenAtFirst gb_nX7 hM gc_ck_X7_isTakenAtFirst (t_X7_isTakenAtFirst_49_64 a b σ _ hq) gd_hoI rfl (fun v hv => by cases hv; exact Or.inr ⟨rfl, z_X7_isTakenAtFirst_49_64 a b σ _ hq⟩) (Nat.le_of_ble_eq_true rfl) rfl
      · skip
        obtain ⟨hb, hg⟩ := gc_bif hg
        obtain ⟨hb0, hb1⟩ := Bool.and_eq_true_iff.mp hb
        obtain rfl := Nat.eq_of_beq_eq_true hb0
        obtain rfl := Nat.eq_of_beq_eq_true hb1
        obtain ⟨q, hq, hg⟩ := gc_bind hg
        obtain rfl := Option.some.inj hg
        exact gc_metP (maxL := 5) (lf := true) hl gc_pnX7 rfl gb_oX7 gc_rk_X7_isTakenAtFirst gb_nX7 hM gc_ck_X7_isTakenAtFirst (t_X7_isTakenAtFirst_49_66 a b σ _ hq) gd_hoI rfl (fun v hv => by cases hv; exact Or.inr ⟨rfl, z_X7_isTakenAtFirst_49_66 a b σ _ hq⟩) (Nat.le_of_ble_eq_true rfl) rfl
  · cases hg
theorem gc_rk_X7_isQualified : cl_X7_isQualified.all (gb_rk gb_flX7 gb_slX7 gb_nlX7 gb_llX7 gb_tlX7 cX7_isQualified) = true := by decide +kernel
theorem gc_ck_X7_isQualified : cl_X7_isQualified.all (gc_ck gb_lkX7 gb_lnX7 [1, 27, 36] 1) = true := by decide +kernel
theorem gm_37 (hl : l.stackTraces = false) : gc_MM l D cA ad A adV 37 := by
  refine ⟨gb_T37, fun h => absurd h (by decide +kernel), fun as σ o hg => ?_⟩
  have hM : ∀ mid ∈ ([1, 27, 36] : List Nat), gc_MM l D cA ad A adV mid := (List.forall_mem_cons.mpr ⟨gm_1 hl, List.forall_mem_cons.mpr ⟨gm_27 hl, List.forall_mem_cons.mpr ⟨gm_36 hl, fun _ h => nomatch h⟩⟩⟩)
  replace hg : c_X7_isQualified as gaSH σ some = some o := hg
  unfold c_X7_isQualified at hg
  split at hg
  · skip
    rename_i r0 a b
    rcases gc_bif2 hg with ⟨hb, hg⟩ | hg
    · skip
      obtain rfl := Nat.eq_of_beq_eq_true hb
      obtain rfl := Option.some.inj hg
      exact gc_metP (maxL := 3) (lf := true) hl gc_pnX7 rfl gb_oX7 gc_rk_X7_isQualified gb_nX7 hM gc_ck_X7_isQualified (t_X7_isQualified_49 a b σ _ (e_X7_isQualified_49 a b σ)) gd_hoI rfl (fun v hv => by cases hv; exact Or.inr ⟨rfl, z_X7_isQualified_49 a b σ⟩) (Nat.le_of_ble_eq_true rfl) rfl
    · skip
      obtain ⟨hb, hg⟩ := gc_bif hg
      obtain rfl := Nat.eq_of_beq_eq_true hb
      obtain rfl := Option.some.inj hg
      exact gc_metP (maxL := 3) (lf := true) hl gc_pnX7 rfl gb_oX7 gc_rk_X7_isQualified gb_nX7 hM gc_ck_X7_isQualified (t_X7_isQualified a b σ _ (e_X7_isQualified a b σ)) gd_hoI rfl (fun v hv => by cases hv; exact Or.inr ⟨rfl, z_X7_isQualified a b σ⟩) (Nat.le_of_ble_eq_true rfl) rfl
  · cases hg
theorem gc_rk_X7_addLesson : cl_X7_addLesson.all (gb_rk gb_flX7 gb_slX7 gb_nlX7 gb_llX7 gb_tlX7 cX7_addLesson) = true := by decide +kernel
theorem gc_ck_X7_addLesson : cl_X7_addLesson.all (gc_ck gb_lkX7 gb_lnX7 [2] 1) = true := by decide +kernel
theorem gm_38 (hl : l.stackTraces = false) : gc_MM l D cA ad A adV 38 := by
  refine ⟨gb_T38, fun h => absurd h (by decide +kernel), fun as σ o hg => ?_⟩
  have hM : ∀ mid ∈ ([2] : List Nat), gc_MM l D cA ad A adV mid := (List.forall_mem_cons.mpr ⟨gm_2 hl, fun _ h => nomatch h⟩)
  replace hg : c_X7_addLesson as gaSH σ some = some o := hg
  unfold c_X7_addLesson at hg
  split at hg
  · skip
    rename_i r0 a b c d e
    rcases gc_bif2 hg with ⟨hb, hg⟩ | hg
    · skip
      obtain rfl := Nat.eq_of_beq_eq_true hb
      obtain rfl := Option.some.inj hg
      exact gc_metG (maxL := 6) (lf := true) hl gc_pnX7 rfl gb_oX7 gc_rk_X7_addLesson gb_nX7 hM gc_ck_X7_addLesson (t_X7_addLesson_49 a b c d e σ _ (e_X7_addLesson_49 a b c d e σ)) gc_hoV rfl (fun v hv => by cases hv; rfl) (Nat.le_of_ble_eq_true rfl) rfl
    · skip
      obtain ⟨hb, hg⟩ := gc_bif hg
      obtain rfl := Nat.eq_of_beq_eq_true hb
      obtain rfl := Option.some.inj hg
      exact gc_metG (maxL := 6) (lf := true) hl gc_pnX7 rfl gb_oX7 gc_rk_X7_addLesson gb_nX7 hM gc_ck_X7_addLesson (t_X7_addLesson a b c d e σ _ (e_X7_addLesson a b c d e σ)) gc_hoV rfl (fun v hv => by cases hv; rfl) (Nat.le_of_ble_eq_true rfl) rfl
  · cases hg
theorem gc_rk_X3_isAway : cl_X3_isAway.all (gb_rk gb_flX3 gb_slX3 gb_nlX3 gb_llX3 gb_tlX3 cX3_isAway) = true := by decide +kernel
theorem gc_ck_X3_isAway : cl_X3_isAway.all (gc_ck gb_lkX3 gb_lnX3 [1, 27] 1) = true := by decide +kernel
theorem gm_44 (hl : l.stackTraces = false) : gc_MM l D cA ad A adV 44 := by
  refine ⟨gb_T44, fun h => absurd h (by decide +kernel), fun as σ o hg => ?_⟩
  have hM : ∀ mid ∈ ([1, 27] : List Nat), gc_MM l D cA ad A adV mid := (List.forall_mem_cons.mpr ⟨gm_1 hl, List.forall_mem_cons.mpr ⟨gm_27 hl, fun _ h => nomatch h⟩⟩)
  replace hg : c_X3_isAway as gaSH σ some = some o := hg
  unfold c_X3_isAway at hg
  split at hg
  · skip
    rename_i r0 a b
    obtain ⟨hb, hg⟩ := gc_bif hg
    obtain rfl := Nat.eq_of_beq_eq_true hb
    obtain rfl := Option.some.inj hg
    exact gc_metP (maxL := 3) (lf := true) hl gc_pnX3 rfl gb_oX3 gc_rk_X3_isAway gb_nX3 hM gc_ck_X3_isAway (t_X3_isAway a b σ _ (e_X3_isAway a b σ)) gd_hoI rfl (fun v hv => by cases hv; exact Or.inr ⟨rfl, z_X3_isAway a b σ⟩) (Nat.le_of_ble_eq_true rfl) rfl
  · cases hg
theorem gc_rk_X1_mark : cl_X1_mark.all (gb_rk gb_flX1 gb_slX1 gb_nlX1 gb_llX1 gb_tlX1 cX1_mark) = true := by decide +kernel
theorem gc_ck_X1_mark : cl_X1_mark.all (gc_ck gb_lkX1 gb_lnX1 [1, 2, 51] 1) = true := by decide +kernel
theorem gm_52 (hl : l.stackTraces = false) : gc_MM l D cA ad A adV 52 := by
  refine ⟨gb_T52, fun h => absurd h (by decide +kernel), fun as σ o hg => ?_⟩
  have hM : ∀ mid ∈ ([1, 2, 51] : List Nat), gc_MM l D cA ad A adV mid := (List.forall_mem_cons.mpr ⟨gm_1 hl, List.forall_mem_cons.mpr ⟨gm_2 hl, List.forall_mem_cons.mpr ⟨gm_51 hl, fun _ h => nomatch h⟩⟩⟩)
  replace hg : c_X1_mark as gaSH σ some = some o := hg
  unfold c_X1_mark at hg
  split at hg
  · skip
    rename_i r0
    obtain ⟨hb, hg⟩ := gc_bif hg
    obtain rfl := Nat.eq_of_beq_eq_true hb
    obtain ⟨q, hq, hg⟩ := gc_bind hg
    obtain rfl := Option.some.inj hg
    exact gc_metG (maxL := 3) (lf := true) hl gc_pnX1 rfl gb_oX1 gc_rk_X1_mark gb_nX1 hM gc_ck_X1_mark (t_X1_mark σ _ hq) gc_hoV rfl (fun v hv => by cases hv; rfl) (Nat.le_of_ble_eq_true rfl) rfl
  · cases hg
theorem gc_rk_X3_makeOpen : cl_X3_makeOpen.all (gb_rk gb_flX3 gb_slX3 gb_nlX3 gb_llX3 gb_tlX3 cX3_makeOpen) = true := by decide +kernel
theorem gc_ck_X3_makeOpen : cl_X3_makeOpen.all (gc_ck gb_lkX3 gb_lnX3 [2] 1) = true := by decide +kernel
theorem gm_53 (hl : l.stackTraces = false) : gc_MM l D cA ad A adV 53 := by
  refine ⟨gb_T53, fun h => absurd h (by decide +kernel), fun as σ o hg => ?_⟩
  have hM : ∀ mid ∈ ([2] : List Nat), gc_MM l D cA ad A adV mid := (List.forall_mem_cons.mpr ⟨gm_2 hl, fun _ h => nomatch h⟩)
  replace hg : c_X3_makeOpen as gaSH σ some = some o := hg
  unfold c_X3_makeOpen at hg
  split at hg
  · skip
    rename_i r0 a
    obtain ⟨hb, hg⟩ := gc_bif hg
    obtain rfl := Nat.eq_of_beq_eq_true hb
    obtain rfl := Option.some.inj hg
    exact gc_metG (maxL := 2) (lf := true) hl gc_pnX3 rfl gb_oX3 gc_rk_X3_makeOpen gb_nX3 hM gc_ck_X3_makeOpen (t_X3_makeOpen a σ _ (e_X3_makeOpen a σ)) gc_hoV rfl (fun v hv => by cases hv; rfl) (Nat.le_of_ble_eq_true rfl) rfl
  · cases hg
theorem gc_rk_X3_isTaught : cl_X3_isTaught.all (gb_rk gb_flX3 gb_slX3 gb_nlX3 gb_llX3 gb_tlX3 cX3_isTaught) = true := by decide +kernel
theorem gc_ck_X3_isTaught : cl_X3_isTaught.all (gc_ck gb_lkX3 gb_lnX3 [1] 1) = true := by decide +kernel
theorem gm_57 (hl : l.stackTraces = false) : gc_MM l D cA ad A adV 57 := by
  refine ⟨gb_T57, fun h => absurd h (by decide +kernel), fun as σ o hg => ?_⟩
  have hM : ∀ mid ∈ ([1] : List Nat), gc_MM l D cA ad A adV mid := (List.forall_mem_cons.mpr ⟨gm_1 hl, fun _ h => nomatch h⟩)
  replace hg : c_X3_isTaught as gaSH σ some = some o := hg
  unfold c_X3_isTaught at hg
  split at hg
  · skip
    rename_i r0 a
    obtain ⟨hb, hg⟩ := gc_bif hg
    obtain rfl := Nat.eq_of_beq_eq_true hb
    obtain rfl := Option.some.inj hg
    exact gc_metP (maxL := 2) (lf := true) hl gc_pnX3 rfl gb_oX3 gc_rk_X3_isTaught gb_nX3 hM gc_ck_X3_isTaught (t_X3_isTaught a σ _ (e_X3_isTaught a σ)) gd_hoI rfl (fun v hv => by cases hv; exact Or.inr ⟨rfl, z_X3_isTaught a σ⟩) (Nat.le_of_ble_eq_true rfl) rfl
  · cases hg
theorem gc_rk_X3_lessonAt : cl_X3_lessonAt.all (gb_rk gb_flX3 gb_slX3 gb_nlX3 gb_llX3 gb_tlX3 cX3_lessonAt) = true := by decide +kernel
theorem gc_ck_X3_lessonAt : cl_X3_lessonAt.all (gc_ck gb_lkX3 gb_lnX3 [1] 1) = true := by decide +kernel
theorem gm_58 (hl : l.stackTraces = false) : gc_MM l D cA ad A adV 58 := by
  refine ⟨gb_T58, fun h => absurd h (by decide +kernel), fun as σ o hg => ?_⟩
  have hM : ∀ mid ∈ ([1] : List Nat), gc_MM l D cA ad A adV mid := (List.forall_mem_cons.mpr ⟨gm_1 hl, fun _ h => nomatch h⟩)
  replace hg : c_X3_lessonAt as gaSH σ some = some o := hg
  unfold c_X3_lessonAt at hg
  split at hg
  · skip
    rename_i r0 a r1 b
    rcases gc_bif2 hg with ⟨hb, hg⟩ | hg
    · skip
      obtain ⟨hb0, hb1⟩ := Bool.and_eq_true_iff.mp hb
      obtain rfl := Nat.eq_of_beq_eq_true hb0
      obtain rfl := Nat.eq_of_beq_eq_true hb1
      obtain ⟨q, hq, hg⟩ := gc_bind hg
      obtain rfl := Option.some.inj hg
      exact gc_metP (maxL := 5) (lf := true) hl gc_pnX3 rfl gb_oX3 gc_rk_X3_lessonAt gb_nX3 hM gc_ck_X3_lessonAt (t_X3_lessonAt_23 a b σ _ hq) gd_hoI rfl (fun v hv => by cases hv; exact Or.inl rfl) (Nat.le_of_ble_eq_true rfl) rfl
    · skip
      rcases gc_bif2 hg with ⟨hb, hg⟩ | hg
      · skip
        obtain ⟨hb0, hb1⟩ := Bool.and_eq_true_iff.mp hb
        obtain rfl := Nat.eq_of_beq_eq_true hb0
        obtain rfl := Nat.eq_of_beq_eq_true hb1
        obtain ⟨q, hq, hg⟩ := gc_bind hg
        obtain rfl := Option.some.inj hg
        exact gc_metP (maxL := 5) (lf := true) hl gc_pnX3 rfl gb_oX3 gc_rk_X3_lessonAt gb_nX3 hM gc_ck_X3_lessonAt (t_X3_lessonAt_25 a b σ _ hq) gd_hoI rfl (fun v hv => by cases hv; exact Or.inl rfl) (Nat.le_of_ble_eq_true rfl) rfl
      · skip
        obtain ⟨hb, hg⟩ := gc_bif hg
        obtain ⟨hb0, hb1⟩ := Bool.and_eq_true_iff.mp hb
        obtain rfl := Nat.eq_of_beq_eq_true hb0
        obtain rfl := Nat.eq_of_beq_eq_true hb1
        obtain ⟨q, hq, hg⟩ := gc_bind hg
        obtain rfl := Option.some.inj hg
        exact gc_metP (maxL := 5) (lf := true) hl gc_pnX3 rfl gb_oX3 gc_rk_X3_lessonAt gb_nX3 hM gc_ck_X3_lessonAt (t_X3_lessonAt_10 a b σ _ hq) gd_hoI rfl (fun v hv => by cases hv; exact Or.inl rfl) (Nat.le_of_ble_eq_true rfl) rfl
  · cases hg
theorem gc_rk_X3_loadOf : cl_X3_loadOf.all (gb_rk gb_flX3 gb_slX3 gb_nlX3 gb_llX3 gb_tlX3 cX3_loadOf) = true := by decide +kernel
theorem gc_ck_X3_loadOf : cl_X3_loadOf.all (gc_ck gb_lkX3 gb_lnX3 [1] 1) = true := by decide +kernel
theorem gm_60 (hl : l.stackTraces = false) : gc_MM l D cA ad A adV 60 := by
  refine ⟨gb_T60, fun h => absurd h (by decide +kernel), fun as σ o hg => ?_⟩
  have hM : ∀ mid ∈ ([1] : List Nat), gc_MM l D cA ad A adV mid := (List.forall_mem_cons.mpr ⟨gm_1 hl, fun _ h => nomatch h⟩)
  replace hg : c_X3_loadOf as gaSH σ some = some o := hg
  unfold c_X3_loadOf at hg
  split at hg
  · skip
    rename_i r0 a
    obtain ⟨hb, hg⟩ := gc_bif hg
    obtain rfl := Nat.eq_of_beq_eq_true hb
    obtain ⟨q, hq, hg⟩ := gc_bind hg
    obtain rfl := Option.some.inj hg
    exact gc_metP (maxL := 4) (lf := true) hl gc_pnX3 rfl gb_oX3 gc_rk_X3_loadOf gb_nX3 hM gc_ck_X3_loadOf (t_X3_loadOf a σ _ hq) gd_hoI rfl (fun v hv => by cases hv; exact Or.inl rfl) (Nat.le_of_ble_eq_true rfl) rfl
  · cases hg
theorem gc_rk_X3_letTeach : cl_X3_letTeach.all (gb_rk gb_flX3 gb_slX3 gb_nlX3 gb_llX3 gb_tlX3 cX3_letTeach) = true := by decide +kernel
theorem gc_ck_X3_letTeach : cl_X3_letTeach.all (gc_ck gb_lkX3 gb_lnX3 [2] 1) = true := by decide +kernel
theorem gm_62 (hl : l.stackTraces = false) : gc_MM l D cA ad A adV 62 := by
  refine ⟨gb_T62, fun h => absurd h (by decide +kernel), fun as σ o hg => ?_⟩
  have hM : ∀ mid ∈ ([2] : List Nat), gc_MM l D cA ad A adV mid := (List.forall_mem_cons.mpr ⟨gm_2 hl, fun _ h => nomatch h⟩)
  replace hg : c_X3_letTeach as gaSH σ some = some o := hg
  unfold c_X3_letTeach at hg
  split at hg
  · skip
    rename_i r0 a b
    obtain ⟨hb, hg⟩ := gc_bif hg
    obtain rfl := Nat.eq_of_beq_eq_true hb
    obtain rfl := Option.some.inj hg
    exact gc_metG (maxL := 3) (lf := true) hl gc_pnX3 rfl gb_oX3 gc_rk_X3_letTeach gb_nX3 hM gc_ck_X3_letTeach (t_X3_letTeach a b σ _ (e_X3_letTeach a b σ)) gc_hoV rfl (fun v hv => by cases hv; rfl) (Nat.le_of_ble_eq_true rfl) rfl
  · cases hg
theorem gc_rk_X3_isOpen : cl_X3_isOpen.all (gb_rk gb_flX3 gb_slX3 gb_nlX3 gb_llX3 gb_tlX3 cX3_isOpen) = true := by decide +kernel
theorem gc_ck_X3_isOpen : cl_X3_isOpen.all (gc_ck gb_lkX3 gb_lnX3 [1] 1) = true := by decide +kernel
theorem gm_64 (hl : l.stackTraces = false) : gc_MM l D cA ad A adV 64 := by
  refine ⟨gb_T64, fun h => absurd h (by decide +kernel), fun as σ o hg => ?_⟩
  have hM : ∀ mid ∈ ([1] : List Nat), gc_MM l D cA ad A adV mid := (List.forall_mem_cons.mpr ⟨gm_1 hl, fun _ h => nomatch h⟩)
  replace hg : c_X3_isOpen as gaSH σ some = some o := hg
  unfold c_X3_isOpen at hg
  split at hg
  · skip
    rename_i r0 a
    obtain ⟨hb, hg⟩ := gc_bif hg
    obtain rfl := Nat.eq_of_beq_eq_true hb
    obtain rfl := Option.some.inj hg
    exact gc_metP (maxL := 2) (lf := true) hl gc_pnX3 rfl gb_oX3 gc_rk_X3_isOpen gb_nX3 hM gc_ck_X3_isOpen (t_X3_isOpen a σ _ (e_X3_isOpen a σ)) gd_hoI rfl (fun v hv => by cases hv; exact Or.inr ⟨rfl, z_X3_isOpen a σ⟩) (Nat.le_of_ble_eq_true rfl) rfl
  · cases hg
theorem gc_rk_X3_isSupervised : cl_X3_isSupervised.all (gb_rk gb_flX3 gb_slX3 gb_nlX3 gb_llX3 gb_tlX3 cX3_isSupervised) = true := by decide +kernel
theorem gc_ck_X3_isSupervised : cl_X3_isSupervised.all (gc_ck gb_lkX3 gb_lnX3 [1] 1) = true := by decide +kernel
theorem gm_65 (hl : l.stackTraces = false) : gc_MM l D cA ad A adV 65 := by
  refine ⟨gb_T65, fun h => absurd h (by decide +kernel), fun as σ o hg => ?_⟩
  have hM : ∀ mid ∈ ([1] : List Nat), gc_MM l D cA ad A adV mid := (List.forall_mem_cons.mpr ⟨gm_1 hl, fun _ h => nomatch h⟩)
  replace hg : c_X3_isSupervised as gaSH σ some = some o := hg
  unfold c_X3_isSupervised at hg
  split at hg
  · skip
    rename_i r0 a
    obtain ⟨hb, hg⟩ := gc_bif hg
    obtain rfl := Nat.eq_of_beq_eq_true hb
    obtain rfl := Option.some.inj hg
    exact gc_metP (maxL := 2) (lf := true) hl gc_pnX3 rfl gb_oX3 gc_rk_X3_isSupervised gb_nX3 hM gc_ck_X3_isSupervised (t_X3_isSupervised a σ _ (e_X3_isSupervised a σ)) gd_hoI rfl (fun v hv => by cases hv; exact Or.inr ⟨rfl, z_X3_isSupervised a σ⟩) (Nat.le_of_ble_eq_true rfl) rfl
  · cases hg
theorem gc_rk_X3_letWatch : cl_X3_letWatch.all (gb_rk gb_flX3 gb_slX3 gb_nlX3 gb_llX3 gb_tlX3 cX3_letWatch) = true := by decide +kernel
theorem gc_ck_X3_letWatch : cl_X3_letWatch.all (gc_ck gb_lkX3 gb_lnX3 [2] 1) = true := by decide +kernel
theorem gm_68 (hl : l.stackTraces = false) : gc_MM l D cA ad A adV 68 := by
  refine ⟨gb_T68, fun h => absurd h (by decide +kernel), fun as σ o hg => ?_⟩
  have hM : ∀ mid ∈ ([2] : List Nat), gc_MM l D cA ad A adV mid := (List.forall_mem_cons.mpr ⟨gm_2 hl, fun _ h => nomatch h⟩)
  replace hg : c_X3_letWatch as gaSH σ some = some o := hg
  unfold c_X3_letWatch at hg
  split at hg
  · skip
    rename_i r0 a b
    obtain ⟨hb, hg⟩ := gc_bif hg
    obtain rfl := Nat.eq_of_beq_eq_true hb
    obtain rfl := Option.some.inj hg
    exact gc_metG (maxL := 3) (lf := true) hl gc_pnX3 rfl gb_oX3 gc_rk_X3_letWatch gb_nX3 hM gc_ck_X3_letWatch (t_X3_letWatch a b σ _ (e_X3_letWatch a b σ)) gc_hoV rfl (fun v hv => by cases hv; rfl) (Nat.le_of_ble_eq_true rfl) rfl
  · cases hg
theorem gc_rk_X7_qualifiedFor : cl_X7_qualifiedFor.all (gb_rk gb_flX7 gb_slX7 gb_nlX7 gb_llX7 gb_tlX7 cX7_qualifiedFor) = true := by decide +kernel
theorem gc_ck_X7_qualifiedFor : cl_X7_qualifiedFor.all (gc_ck gb_lkX7 gb_lnX7 [1, 27] 1) = true := by decide +kernel
theorem gm_72 (hl : l.stackTraces = false) : gc_MM l D cA ad A adV 72 := by
  refine ⟨gb_T72, fun h => absurd h (by decide +kernel), fun as σ o hg => ?_⟩
  have hM : ∀ mid ∈ ([1, 27] : List Nat), gc_MM l D cA ad A adV mid := (List.forall_mem_cons.mpr ⟨gm_1 hl, List.forall_mem_cons.mpr ⟨gm_27 hl, fun _ h => nomatch h⟩⟩)
  replace hg : c_X7_qualifiedFor as gaSH σ some = some o := hg
  unfold c_X7_qualifiedFor at hg
  split at hg
  · skip
    rename_i r0 a
    obtain ⟨hb, hg⟩ := gc_bif hg
    obtain rfl := Nat.eq_of_beq_eq_true hb
    obtain ⟨q, hq, hg⟩ := gc_bind hg
    obtain rfl := Option.some.inj hg
    exact gc_metP (maxL := 4) (lf := true) hl gc_pnX7 rfl gb_oX7 gc_rk_X7_qualifiedFor gb_nX7 hM gc_ck_X7_qualifiedFor (t_X7_qualifiedFor a σ _ hq) gd_hoI rfl (fun v hv => by cases hv; exact Or.inl rfl) (Nat.le_of_ble_eq_true rfl) rfl
  · cases hg
theorem gc_rk_X0_successorsOf : cl_X0_successorsOf.all (gb_rk gb_flX0 gb_slX0 gb_nlX0 gb_llX0 gb_tlX0 cX0_successorsOf) = true := by decide +kernel
theorem gc_ck_X0_successorsOf : cl_X0_successorsOf.all (gc_ck gb_lkX0 gb_lnX0 [1, 27] 1) = true := by decide +kernel
theorem gm_75 (hl : l.stackTraces = false) : gc_MM l D cA ad A adV 75 := by
  refine ⟨gb_T75, fun h => absurd h (by decide +kernel), fun as σ o hg => ?_⟩
  have hM : ∀ mid ∈ ([1, 27] : List Nat), gc_MM l D cA ad A adV mid := (List.forall_mem_cons.mpr ⟨gm_1 hl, List.forall_mem_cons.mpr ⟨gm_27 hl, fun _ h => nomatch h⟩⟩)
  replace hg : c_X0_successorsOf as gaSH σ some = some o := hg
  unfold c_X0_successorsOf at hg
  split at hg
  · skip
    rename_i r0 a
    obtain ⟨hb, hg⟩ := gc_bif hg
    obtain rfl := Nat.eq_of_beq_eq_true hb
    obtain ⟨q, hq, hg⟩ := gc_bind hg
    obtain rfl := Option.some.inj hg
    exact gc_metP (maxL := 4) (lf := true) hl gc_pnX0 rfl gb_oX0 gc_rk_X0_successorsOf gb_nX0 hM gc_ck_X0_successorsOf (t_X0_successorsOf a σ _ hq) gd_hoI rfl (fun v hv => by cases hv; exact Or.inl rfl) (Nat.le_of_ble_eq_true rfl) rfl
  · cases hg
theorem gc_rk_X0_thoseBefore : cl_X0_thoseBefore.all (gb_rk gb_flX0 gb_slX0 gb_nlX0 gb_llX0 gb_tlX0 cX0_thoseBefore) = true := by decide +kernel
theorem gc_ck_X0_thoseBefore : cl_X0_thoseBefore.all (gc_ck gb_lkX0 gb_lnX0 [1, 27] 1) = true := by decide +kernel
theorem gm_76 (hl : l.stackTraces = false) : gc_MM l D cA ad A adV 76 := by
  refine ⟨gb_T76, fun h => absurd h (by decide +kernel), fun as σ o hg => ?_⟩
  have hM : ∀ mid ∈ ([1, 27] : List Nat), gc_MM l D cA ad A adV mid := (List.forall_mem_cons.mpr ⟨gm_1 hl, List.forall_mem_cons.mpr ⟨gm_27 hl, fun _ h => nomatch h⟩⟩)
  replace hg : c_X0_thoseBefore as gaSH σ some = some o := hg
  unfold c_X0_thoseBefore at hg
  split at hg
  · skip
    rename_i r0 a b
    obtain ⟨hb, hg⟩ := gc_bif hg
    obtain rfl := Nat.eq_of_beq_eq_true hb
    obtain ⟨q, hq, hg⟩ := gc_bind hg
    obtain rfl := Option.some.inj hg
    exact gc_metP (maxL := 5) (lf := true) hl gc_pnX0 rfl gb_oX0 gc_rk_X0_thoseBefore gb_nX0 hM gc_ck_X0_thoseBefore (t_X0_thoseBefore a b σ _ hq) gd_hoI rfl (fun v hv => by cases hv; exact Or.inl rfl) (Nat.le_of_ble_eq_true rfl) rfl
  · cases hg
theorem gc_rk_X0_lowest : cl_X0_lowest.all (gb_rk gb_flX0 gb_slX0 gb_nlX0 gb_llX0 gb_tlX0 cX0_lowest) = true := by decide +kernel
theorem gc_ck_X0_lowest : cl_X0_lowest.all (gc_ck gb_lkX0 gb_lnX0 [27] 1) = true := by decide +kernel
theorem gm_77 (hl : l.stackTraces = false) : gc_MM l D cA ad A adV 77 := by
  refine ⟨gb_T77, fun h => absurd h (by decide +kernel), fun as σ o hg => ?_⟩
  have hM : ∀ mid ∈ ([27] : List Nat), gc_MM l D cA ad A adV mid := (List.forall_mem_cons.mpr ⟨gm_27 hl, fun _ h => nomatch h⟩)
  replace hg : c_X0_lowest as gaSH σ some = some o := hg
  unfold c_X0_lowest at hg
  split at hg
  · skip
    rename_i r0 a
    obtain ⟨hb, hg⟩ := gc_bif hg
    obtain rfl := Nat.eq_of_beq_eq_true hb
    obtain ⟨q, hq, hg⟩ := gc_bind hg
    obtain rfl := Option.some.inj hg
    exact gc_metP (maxL := 3) (lf := true) hl gc_pnX0 rfl gb_oX0 gc_rk_X0_lowest gb_nX0 hM gc_ck_X0_lowest (t_X0_lowest a σ _ hq) gd_hoI rfl (fun v hv => by cases hv; exact Or.inl rfl) (Nat.le_of_ble_eq_true rfl) rfl
  · cases hg
theorem gc_rk_X7_hasSlot : cl_X7_hasSlot.all (gb_rk gb_flX7 gb_slX7 gb_nlX7 gb_llX7 gb_tlX7 cX7_hasSlot) = true := by decide +kernel
theorem gc_ck_X7_hasSlot : cl_X7_hasSlot.all (gc_ck gb_lkX7 gb_lnX7 [33] 1) = true := by decide +kernel
theorem gm_87 (hl : l.stackTraces = false) : gc_MM l D cA ad A adV 87 := by
  refine ⟨gb_T87, fun h => absurd h (by decide +kernel), fun as σ o hg => ?_⟩
  have hM : ∀ mid ∈ ([33] : List Nat), gc_MM l D cA ad A adV mid := (List.forall_mem_cons.mpr ⟨gm_33 hl, fun _ h => nomatch h⟩)
  replace hg : c_X7_hasSlot as gaSH σ some = some o := hg
  unfold c_X7_hasSlot at hg
  split at hg
  · skip
    rename_i r0 a
    obtain ⟨hb, hg⟩ := gc_bif hg
    obtain rfl := Nat.eq_of_beq_eq_true hb
    obtain rfl := Option.some.inj hg
    exact gc_metP (maxL := 2) (lf := true) hl gc_pnX7 rfl gb_oX7 gc_rk_X7_hasSlot gb_nX7 hM gc_ck_X7_hasSlot (t_X7_hasSlot a σ _ (e_X7_hasSlot a σ)) gd_hoI rfl (fun v hv => by cases hv; exact Or.inr ⟨rfl, z_X7_hasSlot a σ⟩) (Nat.le_of_ble_eq_true rfl) rfl
  · cases hg
theorem gc_rk_X7_lessonsWith : cl_X7_lessonsWith.all (gb_rk gb_flX7 gb_slX7 gb_nlX7 gb_llX7 gb_tlX7 cX7_lessonsWith) = true := by decide +kernel
theorem gc_ck_X7_lessonsWith : cl_X7_lessonsWith.all (gc_ck gb_lkX7 gb_lnX7 [1] 1) = true := by decide +kernel
theorem gm_97 (hl : l.stackTraces = false) : gc_MM l D cA ad A adV 97 := by
  refine ⟨gb_T97, fun h => absurd h (by decide +kernel), fun as σ o hg => ?_⟩
  have hM : ∀ mid ∈ ([1] : List Nat), gc_MM l D cA ad A adV mid := (List.forall_mem_cons.mpr ⟨gm_1 hl, fun _ h => nomatch h⟩)
  replace hg : c_X7_lessonsWith as gaSH σ some = some o := hg
  unfold c_X7_lessonsWith at hg
  split at hg
  · skip
    rename_i r0 r1 a
    rcases gc_bif2 hg with ⟨hb, hg⟩ | hg
    · skip
      obtain ⟨hb0, hb1⟩ := Bool.and_eq_true_iff.mp hb
      obtain rfl := Nat.eq_of_beq_eq_true hb0
      obtain rfl := Nat.eq_of_beq_eq_true hb1
      obtain ⟨q, hq, hg⟩ := gc_bind hg
      obtain rfl := Option.some.inj hg
      exact gc_metP (maxL := 5) (lf := true) hl gc_pnX7 rfl gb_oX7 gc_rk_X7_lessonsWith gb_nX7 hM gc_ck_X7_lessonsWith (t_X7_lessonsWith_27 a σ _ hq) gd_hoI rfl (fun v hv => by cases hv; exact Or.inl rfl) (Nat.le_of_ble_eq_true rfl) rfl
    · skip
      rcases gc_bif2 hg with ⟨hb, hg⟩ | hg
      · skip
        obtain ⟨hb0, hb1⟩ := Bool.and_eq_true_iff.mp hb
        obtain rfl := Nat.eq_of_beq_eq_true hb0
        obtain rfl := Nat.eq_of_beq_eq_true hb1
        obtain ⟨q, hq, hg⟩ := gc_bind hg
        obtain rfl := Option.some.inj hg
        exact gc_metP (maxL := 5) (lf := true) hl gc_pnX7 rfl gb_oX7 gc_rk_X7_lessonsWith gb_nX7 hM gc_ck_X7_lessonsWith (t_X7_lessonsWith_23 a σ _ hq) gd_hoI rfl (fun v hv => by cases hv; exact Or.inl rfl) (Nat.le_of_ble_eq_true rfl) rfl
      · skip
        rcases gc_bif2 hg with ⟨hb, hg⟩ | hg
        · skip
          obtain ⟨hb0, hb1⟩ := Bool.and_eq_true_iff.mp hb
          obtain rfl := Nat.eq_of_beq_eq_true hb0
          obtain rfl := Nat.eq_of_beq_eq_true hb1
          obtain ⟨q, hq, hg⟩ := gc_bind hg
          obtain rfl := Option.some.inj hg
          exact gc_metP (maxL := 5) (lf := true) hl gc_pnX7 rfl gb_oX7 gc_rk_X7_lessonsWith gb_nX7 hM gc_ck_X7_lessonsWith (t_X7_lessonsWith_16 a σ _ hq) gd_hoI rfl (fun v hv => by cases hv; exact Or.inl rfl) (Nat.le_of_ble_eq_true rfl) rfl
        · skip
          rcases gc_bif2 hg with ⟨hb, hg⟩ | hg
          · skip
            obtain ⟨hb0, hb1⟩ := Bool.and_eq_true_iff.mp hb
            obtain rfl := Nat.eq_of_beq_eq_true hb0
            obtain rfl := Nat.eq_of_beq_eq_true hb1
            obtain ⟨q, hq, hg⟩ := gc_bind hg
            obtain rfl := Option.some.inj hg
            exact gc_metP (maxL := 5) (lf := true) hl gc_pnX7 rfl gb_oX7 gc_rk_X7_lessonsWith gb_nX7 hM gc_ck_X7_lessonsWith (t_X7_lessonsWith_25 a σ _ hq) gd_hoI rfl (fun v hv => by cases hv; exact Or.inl rfl) (Nat.le_of_ble_eq_true rfl) rfl
          · skip
            obtain ⟨hb, hg⟩ := gc_bif hg
            obtain ⟨hb0, hb1⟩ := Bool.and_eq_true_iff.mp hb
            obtain rfl := Nat.eq_of_beq_eq_true hb0
            obtain rfl := Nat.eq_of_beq_eq_true hb1
            obtain ⟨q, hq, hg⟩ := gc_bind hg
            obtain rfl := Option.some.inj hg
            exact gc_metP (maxL := 5) (lf := true) hl gc_pnX7 rfl gb_oX7 gc_rk_X7_lessonsWith gb_nX7 hM gc_ck_X7_lessonsWith (t_X7_lessonsWith_12 a σ _ hq) gd_hoI rfl (fun v hv => by cases hv; exact Or.inl rfl) (Nat.le_of_ble_eq_true rfl) rfl
  · cases hg
theorem gc_rk_X3_taughtBy : cl_X3_taughtBy.all (gb_rk gb_flX3 gb_slX3 gb_nlX3 gb_llX3 gb_tlX3 cX3_taughtBy) = true := by decide +kernel
theorem gc_ck_X3_taughtBy : cl_X3_taughtBy.all (gc_ck gb_lkX3 gb_lnX3 [1] 1) = true := by decide +kernel
theorem gm_100 (hl : l.stackTraces = false) : gc_MM l D cA ad A adV 100 := by
  refine ⟨gb_T100, fun h => absurd h (by decide +kernel), fun as σ o hg => ?_⟩
  have hM : ∀ mid ∈ ([1] : List Nat), gc_MM l D cA ad A adV mid := (List.forall_mem_cons.mpr ⟨gm_1 hl, fun _ h => nomatch h⟩)
  replace hg : c_X3_taughtBy as gaSH σ some = some o := hg
  unfold c_X3_taughtBy at hg
  split at hg
  · skip
    rename_i r0 a
    obtain ⟨hb, hg⟩ := gc_bif hg
    obtain rfl := Nat.eq_of_beq_eq_true hb
    obtain ⟨q, hq, hg⟩ := gc_bind hg
    obtain rfl := Option.some.inj hg
    exact gc_metP (maxL := 4) (lf := true) hl gc_pnX3 rfl gb_oX3 gc_rk_X3_taughtBy gb_nX3 hM gc_ck_X3_taughtBy (t_X3_taughtBy a σ _ hq) gd_hoI rfl (fun v hv => by cases hv; exact Or.inl rfl) (Nat.le_of_ble_eq_true rfl) rfl
  · cases hg
theorem gc_rk_X5_append : cl_X5_append.all (gb_rk gb_flX5 gb_slX5 gb_nlX5 gb_llX5 gb_tlX5 cX5_append) = true := by decide +kernel
theorem gc_ck_X5_append : cl_X5_append.all (gc_ck gb_lkX5 gb_lnX5 [2] 1) = true := by decide +kernel
theorem gm_106 (hl : l.stackTraces = false) : gc_MM l D cA ad A adV 106 := by
  refine ⟨gb_T106, fun h => absurd h (by decide +kernel), fun as σ o hg => ?_⟩
  have hM : ∀ mid ∈ ([2] : List Nat), gc_MM l D cA ad A adV mid := (List.forall_mem_cons.mpr ⟨gm_2 hl, fun _ h => nomatch h⟩)
  replace hg : c_X5_append as gaSH σ some = some o := hg
  unfold c_X5_append at hg
  split at hg
  · skip
    rename_i r0 a
    obtain ⟨hb, hg⟩ := gc_bif hg
    obtain rfl := Nat.eq_of_beq_eq_true hb
    obtain rfl := Option.some.inj hg
    exact gc_metG (maxL := 2) (lf := true) hl gc_pnX5 rfl gb_oX5 gc_rk_X5_append gb_nX5 hM gc_ck_X5_append (t_X5_append a σ _ (e_X5_append a σ)) gc_hoV rfl (fun v hv => by cases hv; rfl) (Nat.le_of_ble_eq_true rfl) rfl
  · cases hg
theorem gc_rk_X1_restoreMarked : cl_X1_restoreMarked.all (gb_rk gb_flX1 gb_slX1 gb_nlX1 gb_llX1 gb_tlX1 cX1_restoreMarked) = true := by decide +kernel
theorem gc_ck_X1_restoreMarked : cl_X1_restoreMarked.all (gc_ck gb_lkX1 gb_lnX1 [1, 2, 51] 1) = true := by decide +kernel
theorem gm_109 (hl : l.stackTraces = false) : gc_MM l D cA ad A adV 109 := by
  refine ⟨gb_T109, fun h => absurd h (by decide +kernel), fun as σ o hg => ?_⟩
  have hM : ∀ mid ∈ ([1, 2, 51] : List Nat), gc_MM l D cA ad A adV mid := (List.forall_mem_cons.mpr ⟨gm_1 hl, List.forall_mem_cons.mpr ⟨gm_2 hl, List.forall_mem_cons.mpr ⟨gm_51 hl, fun _ h => nomatch h⟩⟩⟩)
  replace hg : c_X1_restoreMarked as gaSH σ some = some o := hg
  unfold c_X1_restoreMarked at hg
  split at hg
  · skip
    rename_i r0
    obtain ⟨hb, hg⟩ := gc_bif hg
    obtain rfl := Nat.eq_of_beq_eq_true hb
    obtain ⟨q, hq, hg⟩ := gc_bind hg
    obtain rfl := Option.some.inj hg
    exact gc_metG (maxL := 3) (lf := true) hl gc_pnX1 rfl gb_oX1 gc_rk_X1_restoreMarked gb_nX1 hM gc_ck_X1_restoreMarked (t_X1_restoreMarked σ _ hq) gc_hoV rfl (fun v hv => by cases hv; rfl) (Nat.le_of_ble_eq_true rfl) rfl
  · cases hg
theorem gc_rk_X10_next : cl_X10_next.all (gb_rk gb_flX10 gb_slX10 gb_nlX10 gb_llX10 gb_tlX10 cX10_next) = true := by decide +kernel
theorem gc_ck_X10_next : cl_X10_next.all (gc_ck gb_lkX10 gb_lnX10 [1, 8, 9, 10, 12, 13] 2) = true := by decide +kernel
theorem gm_14 (hl : l.stackTraces = false) : gc_MM l D cA ad A adV 14 := by
  refine ⟨gb_T14, fun h => absurd h (by decide +kernel), fun as σ o hg => ?_⟩
  have hM : ∀ mid ∈ ([1, 8, 9, 10, 12, 13] : List Nat), gc_MM l D cA ad A adV mid := (List.forall_mem_cons.mpr ⟨gm_1 hl, List.forall_mem_cons.mpr ⟨gm_8 hl, List.forall_mem_cons.mpr ⟨gm_9 hl, List.forall_mem_cons.mpr ⟨gm_10 hl, List.forall_mem_cons.mpr ⟨gm_12 hl, List.forall_mem_cons.mpr ⟨gm_13 hl, fun _ h => nomatch h⟩⟩⟩⟩⟩⟩)
  replace hg : c_X10_next as gaSH σ some = some o := hg
  unfold c_X10_next at hg
  split at hg
  · skip
    rename_i r0
    obtain ⟨hb, hg⟩ := gc_bif hg
    obtain rfl := Nat.eq_of_beq_eq_true hb
    obtain ⟨q, hq, hg⟩ := gc_bind hg
    obtain rfl := Option.some.inj hg
    exact gc_metG (maxL := 2) (lf := true) hl gc_pnX10 rfl gb_oX10 gc_rk_X10_next gb_nX10 hM gc_ck_X10_next (t_X10_next σ _ hq) gc_hoV rfl (fun v hv => by cases hv; rfl) (Nat.le_of_ble_eq_true rfl) rfl
  · cases hg
theorem gc_rk_X8_checkNumber : cl_X8_checkNumber.all (gb_rk gb_flX8 gb_slX8 gb_nlX8 gb_llX8 gb_tlX8 cX8_checkNumber) = true := by decide +kernel
theorem gc_ck_X8_checkNumber : cl_X8_checkNumber.all (gc_ck gb_lkX8 gb_lnX8 [18] 2) = true := by decide +kernel
theorem gm_20 (hl : l.stackTraces = false) : gc_MM l D cA ad A adV 20 := by
  refine ⟨gb_T20, fun h => absurd h (by decide +kernel), fun as σ o hg => ?_⟩
  have hM : ∀ mid ∈ ([18] : List Nat), gc_MM l D cA ad A adV mid := (List.forall_mem_cons.mpr ⟨gm_18 hl, fun _ h => nomatch h⟩)
  replace hg : c_X8_checkNumber as gaSH σ some = some o := hg
  unfold c_X8_checkNumber at hg
  split at hg
  · skip
    rename_i r0 a b
    obtain ⟨hb, hg⟩ := gc_bif hg
    obtain rfl := Nat.eq_of_beq_eq_true hb
    obtain rfl := Option.some.inj hg
    exact gc_metG (maxL := 3) (lf := true) hl gc_pnX8 rfl gb_oX8 gc_rk_X8_checkNumber gb_nX8 hM gc_ck_X8_checkNumber (t_X8_checkNumber a b σ _ (e_X8_checkNumber a b σ)) gc_hoI rfl (fun v hv => by cases hv; exact Or.inr ⟨rfl, z_X8_checkNumber a b σ⟩) (Nat.le_of_ble_eq_true rfl) rfl
  · cases hg
theorem gc_rk_X7_become : cl_X7_become.all (gb_rk gb_flX7 gb_slX7 gb_nlX7 gb_llX7 gb_tlX7 cX7_become) = true := by decide +kernel
theorem gc_ck_X7_become : cl_X7_become.all (gc_ck gb_lkX7 gb_lnX7 [3] 2) = true := by decide +kernel
theorem gm_42 (hl : l.stackTraces = false) : gc_MM l D cA ad A adV 42 := by
  refine ⟨gb_T42, fun h => absurd h (by decide +kernel), fun as σ o hg => ?_⟩
  have hM : ∀ mid ∈ ([3] : List Nat), gc_MM l D cA ad A adV mid := (List.forall_mem_cons.mpr ⟨gm_3 hl, fun _ h => nomatch h⟩)
  replace hg : c_X7_become as gaSH σ some = some o := hg
  unfold c_X7_become at hg
  split at hg
  · skip
    rename_i r0 r1
    obtain ⟨hb, hg⟩ := gc_bif hg
    obtain ⟨hb0, hb1⟩ := Bool.and_eq_true_iff.mp hb
    obtain rfl := Nat.eq_of_beq_eq_true hb0
    obtain rfl := Nat.eq_of_beq_eq_true hb1
    obtain rfl := Option.some.inj hg
    exact gc_metG (maxL := 2) (lf := true) hl gc_pnX7 rfl gb_oX7 gc_rk_X7_become gb_nX7 hM gc_ck_X7_become (t_X7_become_49 σ _ (e_X7_become_49 σ)) gc_hoV rfl (fun v hv => by cases hv; rfl) (Nat.le_of_ble_eq_true rfl) rfl
  · cases hg
theorem gc_rk_X3_isAwayAt : cl_X3_isAwayAt.all (gb_rk gb_flX3 gb_slX3 gb_nlX3 gb_llX3 gb_tlX3 cX3_isAwayAt) = true := by decide +kernel
theorem gc_ck_X3_isAwayAt : cl_X3_isAwayAt.all (gc_ck gb_lkX3 gb_lnX3 [43, 44] 2) = true := by decide +kernel
theorem gm_45 (hl : l.stackTraces = false) : gc_MM l D cA ad A adV 45 := by
  refine ⟨gb_T45, fun h => absurd h (by decide +kernel), fun as σ o hg => ?_⟩
  have hM : ∀ mid ∈ ([43, 44] : List Nat), gc_MM l D cA ad A adV mid := (List.forall_mem_cons.mpr ⟨gm_43 hl, List.forall_mem_cons.mpr ⟨gm_44 hl, fun _ h => nomatch h⟩⟩)
  replace hg : c_X3_isAwayAt as gaSH σ some = some o := hg
  unfold c_X3_isAwayAt at hg
  split at hg
  · skip
    rename_i r0 a b
    obtain ⟨hb, hg⟩ := gc_bif hg
    obtain rfl := Nat.eq_of_beq_eq_true hb
    obtain ⟨q, hq, hg⟩ := gc_bind hg
    obtain rfl := Option.some.inj hg
    exact gc_metP (maxL := 3) (lf := true) hl gc_pnX3 rfl gb_oX3 gc_rk_X3_isAwayAt gb_nX3 hM gc_ck_X3_isAwayAt (t_X3_isAwayAt a b σ _ hq) gd_hoI rfl (fun v hv => by cases hv; exact Or.inr ⟨rfl, z_X3_isAwayAt a b σ _ hq⟩) (Nat.le_of_ble_eq_true rfl) rfl
  · cases hg
theorem gc_rk_X2_letBeAbsent : cl_X2_letBeAbsent.all (gb_rk gb_flX2 gb_slX2 gb_nlX2 gb_llX2 gb_tlX2 cX2_letBeAbsent) = true := by decide +kernel
theorem gc_ck_X2_letBeAbsent : cl_X2_letBeAbsent.all (gc_ck gb_lkX2 gb_lnX2 [1, 2, 43, 53] 2) = true := by decide +kernel
theorem gm_54 (hl : l.stackTraces = false) : gc_MM l D cA ad A adV 54 := by
  refine ⟨gb_T54, fun h => absurd h (by decide +kernel), fun as σ o hg => ?_⟩
  have hM : ∀ mid ∈ ([1, 2, 43, 53] : List Nat), gc_MM l D cA ad A adV mid := (List.forall_mem_cons.mpr ⟨gm_1 hl, List.forall_mem_cons.mpr ⟨gm_2 hl, List.forall_mem_cons.mpr ⟨gm_43 hl, List.forall_mem_cons.mpr ⟨gm_53 hl, fun _ h => nomatch h⟩⟩⟩⟩)
  replace hg : c_X2_letBeAbsent as gaSH σ some = some o := hg
  unfold c_X2_letBeAbsent at hg
  split at hg
  · skip
    rename_i r0 a b c
    obtain ⟨hb, hg⟩ := gc_bif hg
    obtain rfl := Nat.eq_of_beq_eq_true hb
    obtain ⟨q, hq, hg⟩ := gc_bind hg
    obtain rfl := Option.some.inj hg
    exact gc_metG (maxL := 7) (lf := true) hl gc_pnX2 rfl gb_oX2 gc_rk_X2_letBeAbsent gb_nX2 hM gc_ck_X2_letBeAbsent (t_X2_letBeAbsent a b c σ _ hq) gc_hoI rfl (fun v hv => by cases hv; exact Or.inl rfl) (Nat.le_of_ble_eq_true rfl) rfl
  · cases hg
theorem gc_rk_X4_isBusy : cl_X4_isBusy.all (gb_rk gb_flX4 gb_slX4 gb_nlX4 gb_llX4 gb_tlX4 cX4_isBusy) = true := by decide +kernel
theorem gc_ck_X4_isBusy : cl_X4_isBusy.all (gc_ck gb_lkX4 gb_lnX4 [58] 2) = true := by decide +kernel
theorem gm_59 (hl : l.stackTraces = false) : gc_MM l D cA ad A adV 59 := by
  refine ⟨gb_T59, fun h => absurd h (by decide +kernel), fun as σ o hg => ?_⟩
  have hM : ∀ mid ∈ ([58] : List Nat), gc_MM l D cA ad A adV mid := (List.forall_mem_cons.mpr ⟨gm_58 hl, fun _ h => nomatch h⟩)
  replace hg : c_X4_isBusy as gaSH σ some = some o := hg
  unfold c_X4_isBusy at hg
  split at hg
  · skip
    rename_i r0 a b
    obtain ⟨hb, hg⟩ := gc_bif hg
    obtain rfl := Nat.eq_of_beq_eq_true hb
    obtain ⟨q, hq, hg⟩ := gc_bind hg
    obtain rfl := Option.some.inj hg
    exact gc_metP (maxL := 3) (lf := true) hl gc_pnX4 rfl gb_oX4 gc_rk_X4_isBusy gb_nX4 hM gc_ck_X4_isBusy (t_X4_isBusy a b σ _ hq) gd_hoI rfl (fun v hv => by cases hv; exact Or.inr ⟨rfl, z_X4_isBusy a b σ _ hq⟩) (Nat.le_of_ble_eq_true rfl) rfl
  · cases hg
theorem gc_rk_X3_dutiesOn : cl_X3_dutiesOn.all (gb_rk gb_flX3 gb_slX3 gb_nlX3 gb_llX3 gb_tlX3 cX3_dutiesOn) = true := by decide +kernel
theorem gc_ck_X3_dutiesOn : cl_X3_dutiesOn.all (gc_ck gb_lkX3 gb_lnX3 [1, 43, 65] 2) = true := by decide +kernel
theorem gm_66 (hl : l.stackTraces = false) : gc_MM l D cA ad A adV 66 := by
  refine ⟨gb_T66, fun h => absurd h (by decide +kernel), fun as σ o hg => ?_⟩
  have hM : ∀ mid ∈ ([1, 43, 65] : List Nat), gc_MM l D cA ad A adV mid := (List.forall_mem_cons.mpr ⟨gm_1 hl, List.forall_mem_cons.mpr ⟨gm_43 hl, List.forall_mem_cons.mpr ⟨gm_65 hl, fun _ h => nomatch h⟩⟩⟩)
  replace hg : c_X3_dutiesOn as gaSH σ some = some o := hg
  unfold c_X3_dutiesOn at hg
  split at hg
  · skip
    rename_i r0 a b
    obtain ⟨hb, hg⟩ := gc_bif hg
    obtain rfl := Nat.eq_of_beq_eq_true hb
    obtain ⟨q, hq, hg⟩ := gc_bind hg
    obtain rfl := Option.some.inj hg
    exact gc_metP (maxL := 5) (lf := true) hl gc_pnX3 rfl gb_oX3 gc_rk_X3_dutiesOn gb_nX3 hM gc_ck_X3_dutiesOn (t_X3_dutiesOn a b σ _ hq) gd_hoI rfl (fun v hv => by cases hv; exact Or.inl rfl) (Nat.le_of_ble_eq_true rfl) rfl
  · cases hg
theorem gc_rk_X3_dutiesOf : cl_X3_dutiesOf.all (gb_rk gb_flX3 gb_slX3 gb_nlX3 gb_llX3 gb_tlX3 cX3_dutiesOf) = true := by decide +kernel
theorem gc_ck_X3_dutiesOf : cl_X3_dutiesOf.all (gc_ck gb_lkX3 gb_lnX3 [1, 65] 2) = true := by decide +kernel
theorem gm_70 (hl : l.stackTraces = false) : gc_MM l D cA ad A adV 70 := by
  refine ⟨gb_T70, fun h => absurd h (by decide +kernel), fun as σ o hg => ?_⟩
  have hM : ∀ mid ∈ ([1, 65] : List Nat), gc_MM l D cA ad A adV mid := (List.forall_mem_cons.mpr ⟨gm_1 hl, List.forall_mem_cons.mpr ⟨gm_65 hl, fun _ h => nomatch h⟩⟩)
  replace hg : c_X3_dutiesOf as gaSH σ some = some o := hg
  unfold c_X3_dutiesOf at hg
  split at hg
  · skip
    rename_i r0 a
    obtain ⟨hb, hg⟩ := gc_bif hg
    obtain rfl := Nat.eq_of_beq_eq_true hb
    obtain ⟨q, hq, hg⟩ := gc_bind hg
    obtain rfl := Option.some.inj hg
    exact gc_metP (maxL := 4) (lf := true) hl gc_pnX3 rfl gb_oX3 gc_rk_X3_dutiesOf gb_nX3 hM gc_ck_X3_dutiesOf (t_X3_dutiesOf a σ _ hq) gd_hoI rfl (fun v hv => by cases hv; exact Or.inl rfl) (Nat.le_of_ble_eq_true rfl) rfl
  · cases hg
theorem gc_rk_X0_presentAt : cl_X0_presentAt.all (gb_rk gb_flX0 gb_slX0 gb_nlX0 gb_llX0 gb_tlX0 cX0_presentAt) = true := by decide +kernel
theorem gc_ck_X0_presentAt : cl_X0_presentAt.all (gc_ck gb_lkX0 gb_lnX0 [43, 44] 2) = true := by decide +kernel
theorem gm_71 (hl : l.stackTraces = false) : gc_MM l D cA ad A adV 71 := by
  refine ⟨gb_T71, fun h => absurd h (by decide +kernel), fun as σ o hg => ?_⟩
  have hM : ∀ mid ∈ ([43, 44] : List Nat), gc_MM l D cA ad A adV mid := (List.forall_mem_cons.mpr ⟨gm_43 hl, List.forall_mem_cons.mpr ⟨gm_44 hl, fun _ h => nomatch h⟩⟩)
  replace hg : c_X0_presentAt as gaSH σ some = some o := hg
  unfold c_X0_presentAt at hg
  split at hg
  · skip
    rename_i r0 a
    obtain ⟨hb, hg⟩ := gc_bif hg
    obtain rfl := Nat.eq_of_beq_eq_true hb
    obtain ⟨q, hq, hg⟩ := gc_bind hg
    obtain rfl := Option.some.inj hg
    exact gc_metP (maxL := 5) (lf := true) hl gc_pnX0 rfl gb_oX0 gc_rk_X0_presentAt gb_nX0 hM gc_ck_X0_presentAt (t_X0_presentAt a σ _ hq) gd_hoI rfl (fun v hv => by cases hv; exact Or.inl rfl) (Nat.le_of_ble_eq_true rfl) rfl
  · cases hg
theorem gc_rk_X0_busyAt : cl_X0_busyAt.all (gb_rk gb_flX0 gb_slX0 gb_nlX0 gb_llX0 gb_tlX0 cX0_busyAt) = true := by decide +kernel
theorem gc_ck_X0_busyAt : cl_X0_busyAt.all (gc_ck gb_lkX0 gb_lnX0 [1, 2, 57, 64, 72] 2) = true := by decide +kernel
theorem gm_73 (hl : l.stackTraces = false) : gc_MM l D cA ad A adV 73 := by
  refine ⟨gb_T73, fun h => absurd h (by decide +kernel), fun as σ o hg => ?_⟩
  have hM : ∀ mid ∈ ([1, 2, 57, 64, 72] : List Nat), gc_MM l D cA ad A adV mid := (List.forall_mem_cons.mpr ⟨gm_1 hl, List.forall_mem_cons.mpr ⟨gm_2 hl, List.forall_mem_cons.mpr ⟨gm_57 hl, List.forall_mem_cons.mpr ⟨gm_64 hl, List.forall_mem_cons.mpr ⟨gm_72 hl, fun _ h => nomatch h⟩⟩⟩⟩⟩)
  replace hg : c_X0_busyAt as gaSH σ some = some o := hg
  unfold c_X0_busyAt at hg
  split at hg
  · skip
    rename_i r0 a b
    obtain ⟨hb, hg⟩ := gc_bif hg
    obtain rfl := Nat.eq_of_beq_eq_true hb
    obtain ⟨q, hq, hg⟩ := gc_bind hg
    obtain rfl := Option.some.inj hg
    exact gc_metG (maxL := 5) (lf := true) hl gc_pnX0 rfl gb_oX0 gc_rk_X0_busyAt gb_nX0 hM gc_ck_X0_busyAt (t_X0_busyAt a b σ _ hq) gc_hoI rfl (fun v hv => by cases hv; exact Or.inl rfl) (Nat.le_of_ble_eq_true rfl) rfl
  · cases hg
theorem gc_rk_X0_leastLoaded : cl_X0_leastLoaded.all (gb_rk gb_flX0 gb_slX0 gb_nlX0 gb_llX0 gb_tlX0 cX0_leastLoaded) = true := by decide +kernel
theorem gc_ck_X0_leastLoaded : cl_X0_leastLoaded.all (gc_ck gb_lkX0 gb_lnX0 [1, 27, 60] 2) = true := by decide +kernel
theorem gm_74 (hl : l.stackTraces = false) : gc_MM l D cA ad A adV 74 := by
  refine ⟨gb_T74, fun h => absurd h (by decide +kernel), fun as σ o hg => ?_⟩
  have hM : ∀ mid ∈ ([1, 27, 60] : List Nat), gc_MM l D cA ad A adV mid := (List.forall_mem_cons.mpr ⟨gm_1 hl, List.forall_mem_cons.mpr ⟨gm_27 hl, List.forall_mem_cons.mpr ⟨gm_60 hl, fun _ h => nomatch h⟩⟩⟩)
  replace hg : c_X0_leastLoaded as gaSH σ some = some o := hg
  unfold c_X0_leastLoaded at hg
  split at hg
  · skip
    rename_i r0 a
    obtain ⟨hb, hg⟩ := gc_bif hg
    obtain rfl := Nat.eq_of_beq_eq_true hb
    obtain ⟨q, hq, hg⟩ := gc_bind hg
    obtain rfl := Option.some.inj hg
    exact gc_metP (maxL := 6) (lf := true) hl gc_pnX0 rfl gb_oX0 gc_rk_X0_leastLoaded gb_nX0 hM gc_ck_X0_leastLoaded (t_X0_leastLoaded a σ _ hq) gd_hoI rfl (fun v hv => by cases hv; exact Or.inl rfl) (Nat.le_of_ble_eq_true rfl) rfl
  · cases hg
theorem gc_rk_X0_choose : cl_X0_choose.all (gb_rk gb_flX0 gb_slX0 gb_nlX0 gb_llX0 gb_tlX0 cX0_choose) = true := by decide +kernel
theorem gc_ck_X0_choose : cl_X0_choose.all (gc_ck gb_lkX0 gb_lnX0 [1, 2, 76, 77] 2) = true := by decide +kernel
theorem gm_78 (hl : l.stackTraces = false) : gc_MM l D cA ad A adV 78 := by
  refine ⟨gb_T78, fun h => absurd h (by decide +kernel), fun as σ o hg => ?_⟩
  have hM : ∀ mid ∈ ([1, 2, 76, 77] : List Nat), gc_MM l D cA ad A adV mid := (List.forall_mem_cons.mpr ⟨gm_1 hl, List.forall_mem_cons.mpr ⟨gm_2 hl, List.forall_mem_cons.mpr ⟨gm_76 hl, List.forall_mem_cons.mpr ⟨gm_77 hl, fun _ h => nomatch h⟩⟩⟩⟩)
  replace hg : c_X0_choose as gaSH σ some = some o := hg
  unfold c_X0_choose at hg
  split at hg
  · skip
    rename_i r0 a
    obtain ⟨hb, hg⟩ := gc_bif hg
    obtain rfl := Nat.eq_of_beq_eq_true hb
    obtain ⟨q, hq, hg⟩ := gc_bind hg
    obtain rfl := Option.some.inj hg
    exact gc_metG (maxL := 5) (lf := true) hl gc_pnX0 rfl gb_oX0 gc_rk_X0_choose gb_nX0 hM gc_ck_X0_choose (t_X0_choose a σ _ hq) gc_hoV rfl (fun v hv => by cases hv; rfl) (Nat.le_of_ble_eq_true rfl) rfl
  · cases hg
theorem gc_rk_X4_isHeldByThird : cl_X4_isHeldByThird.all (gb_rk gb_flX4 gb_slX4 gb_nlX4 gb_llX4 gb_tlX4 cX4_isHeldByThird) = true := by decide +kernel
theorem gc_ck_X4_isHeldByThird : cl_X4_isHeldByThird.all (gc_ck gb_lkX4 gb_lnX4 [1, 58] 2) = true := by decide +kernel
theorem gm_84 (hl : l.stackTraces = false) : gc_MM l D cA ad A adV 84 := by
  refine ⟨gb_T84, fun h => absurd h (by decide +kernel), fun as σ o hg => ?_⟩
  have hM : ∀ mid ∈ ([1, 58] : List Nat), gc_MM l D cA ad A adV mid := (List.forall_mem_cons.mpr ⟨gm_1 hl, List.forall_mem_cons.mpr ⟨gm_58 hl, fun _ h => nomatch h⟩⟩)
  replace hg : c_X4_isHeldByThird as gaSH σ some = some o := hg
  unfold c_X4_isHeldByThird at hg
  split at hg
  · skip
    rename_i r0 r1 a b
    rcases gc_bif2 hg with ⟨hb, hg⟩ | hg
    · skip
      obtain ⟨hb0, hb1⟩ := Bool.and_eq_true_iff.mp hb
      obtain rfl := Nat.eq_of_beq_eq_true hb0
      obtain rfl := Nat.eq_of_beq_eq_true hb1
      obtain ⟨q, hq, hg⟩ := gc_bind hg
      obtain rfl := Option.some.inj hg
      exact gc_metP (maxL := 5) (lf := true) hl gc_pnX4 rfl gb_oX4 gc_rk_X4_isHeldByThird gb_nX4 hM gc_ck_X4_isHeldByThird (t_X4_isHeldByThird_23 a b σ _ hq) gd_hoI rfl (fun v hv => by cases hv; exact Or.inr ⟨rfl, z_X4_isHeldByThird_23 a b σ _ hq⟩) (Nat.le_of_ble_eq_true rfl) rfl
    · skip
      obtain ⟨hb, hg⟩ := gc_bif hg
      obtain ⟨hb0, hb1⟩ := Bool.and_eq_true_iff.mp hb
      obtain rfl := Nat.eq_of_beq_eq_true hb0
      obtain rfl := Nat.eq_of_beq_eq_true hb1
      obtain ⟨q, hq, hg⟩ := gc_bind hg
      obtain rfl := Option.some.inj hg
      exact gc_metP (maxL := 5) (lf := true) hl gc_pnX4 rfl gb_oX4 gc_rk_X4_isHeldByThird gb_nX4 hM gc_ck_X4_isHeldByThird (t_X4_isHeldByThird_25 a b σ _ hq) gd_hoI rfl (fun v hv => by cases hv; exact Or.inr ⟨rfl, z_X4_isHeldByThird_25 a b σ _ hq⟩) (Nat.le_of_ble_eq_true rfl) rfl
  · cases hg
theorem gc_rk_X4_againstRoom : cl_X4_againstRoom.all (gb_rk gb_flX4 gb_slX4 gb_nlX4 gb_llX4 gb_tlX4 cX4_againstRoom) = true := by decide +kernel
theorem gc_ck_X4_againstRoom : cl_X4_againstRoom.all (gc_ck gb_lkX4 gb_lnX4 [1, 58] 2) = true := by decide +kernel
theorem gm_91 (hl : l.stackTraces = false) : gc_MM l D cA ad A adV 91 := by
  refine ⟨gb_T91, fun h => absurd h (by decide +kernel), fun as σ o hg => ?_⟩
  have hM : ∀ mid ∈ ([1, 58] : List Nat), gc_MM l D cA ad A adV mid := (List.forall_mem_cons.mpr ⟨gm_1 hl, List.forall_mem_cons.mpr ⟨gm_58 hl, fun _ h => nomatch h⟩⟩)
  replace hg : c_X4_againstRoom as gaSH σ some = some o := hg
  unfold c_X4_againstRoom at hg
  split at hg
  · skip
    rename_i r0 a b
    obtain ⟨hb, hg⟩ := gc_bif hg
    obtain rfl := Nat.eq_of_beq_eq_true hb
    obtain ⟨q, hq, hg⟩ := gc_bind hg
    obtain rfl := Option.some.inj hg
    exact gc_metP (maxL := 3) (lf := true) hl gc_pnX4 rfl gb_oX4 gc_rk_X4_againstRoom gb_nX4 hM gc_ck_X4_againstRoom (t_X4_againstRoom a b σ _ hq) gd_hoI rfl (fun v hv => by cases hv; exact Or.inl rfl) (Nat.le_of_ble_eq_true rfl) rfl
  · cases hg
theorem gc_rk_X2_openAgain : cl_X2_openAgain.all (gb_rk gb_flX2 gb_slX2 gb_nlX2 gb_llX2 gb_tlX2 cX2_openAgain) = true := by decide +kernel
theorem gc_ck_X2_openAgain : cl_X2_openAgain.all (gc_ck gb_lkX2 gb_lnX2 [53, 64] 2) = true := by decide +kernel
theorem gm_93 (hl : l.stackTraces = false) : gc_MM l D cA ad A adV 93 := by
  refine ⟨gb_T93, fun h => absurd h (by decide +kernel), fun as σ o hg => ?_⟩
  have hM : ∀ mid ∈ ([53, 64] : List Nat), gc_MM l D cA ad A adV mid := (List.forall_mem_cons.mpr ⟨gm_53 hl, List.forall_mem_cons.mpr ⟨gm_64 hl, fun _ h => nomatch h⟩⟩)
  replace hg : c_X2_openAgain as gaSH σ some = some o := hg
  unfold c_X2_openAgain at hg
  split at hg
  · skip
    rename_i r0 a
    obtain ⟨hb, hg⟩ := gc_bif hg
    obtain rfl := Nat.eq_of_beq_eq_true hb
    obtain rfl := Option.some.inj hg
    exact gc_metG (maxL := 2) (lf := true) hl gc_pnX2 rfl gb_oX2 gc_rk_X2_openAgain gb_nX2 hM gc_ck_X2_openAgain (t_X2_openAgain a σ _ (e_X2_openAgain a σ)) gc_hoI rfl (fun v hv => by cases hv; exact Or.inr ⟨rfl, z_X2_openAgain a σ⟩) (Nat.le_of_ble_eq_true rfl) rfl
  · cases hg
theorem gc_rk_X3_differs : cl_X3_differs.all (gb_rk gb_flX3 gb_slX3 gb_nlX3 gb_llX3 gb_tlX3 cX3_differs) = true := by decide +kernel
theorem gc_ck_X3_differs : cl_X3_differs.all (gc_ck gb_lkX3 gb_lnX3 [1, 65] 2) = true := by decide +kernel
theorem gm_94 (hl : l.stackTraces = false) : gc_MM l D cA ad A adV 94 := by
  refine ⟨gb_T94, fun h => absurd h (by decide +kernel), fun as σ o hg => ?_⟩
  have hM : ∀ mid ∈ ([1, 65] : List Nat), gc_MM l D cA ad A adV mid := (List.forall_mem_cons.mpr ⟨gm_1 hl, List.forall_mem_cons.mpr ⟨gm_65 hl, fun _ h => nomatch h⟩⟩)
  replace hg : c_X3_differs as gaSH σ some = some o := hg
  unfold c_X3_differs at hg
  split at hg
  · skip
    rename_i r0 a
    obtain ⟨hb, hg⟩ := gc_bif hg
    obtain rfl := Nat.eq_of_beq_eq_true hb
    obtain rfl := Option.some.inj hg
    exact gc_metP (maxL := 2) (lf := true) hl gc_pnX3 rfl gb_oX3 gc_rk_X3_differs gb_nX3 hM gc_ck_X3_differs (t_X3_differs a σ _ (e_X3_differs a σ)) gd_hoI rfl (fun v hv => by cases hv; exact Or.inr ⟨rfl, z_X3_differs a σ⟩) (Nat.le_of_ble_eq_true rfl) rfl
  · cases hg
theorem gc_rk_X3_supervisedLessons : cl_X3_supervisedLessons.all (gb_rk gb_flX3 gb_slX3 gb_nlX3 gb_llX3 gb_tlX3 cX3_supervisedLessons) = true := by decide +kernel
theorem gc_ck_X3_supervisedLessons : cl_X3_supervisedLessons.all (gc_ck gb_lkX3 gb_lnX3 [97] 2) = true := by decide +kernel
theorem gm_98 (hl : l.stackTraces = false) : gc_MM l D cA ad A adV 98 := by
  refine ⟨gb_T98, fun h => absurd h (by decide +kernel), fun as σ o hg => ?_⟩
  have hM : ∀ mid ∈ ([97] : List Nat), gc_MM l D cA ad A adV mid := (List.forall_mem_cons.mpr ⟨gm_97 hl, fun _ h => nomatch h⟩)
  replace hg : c_X3_supervisedLessons as gaSH σ some = some o := hg
  unfold c_X3_supervisedLessons at hg
  split at hg
  · skip
    rename_i r0
    obtain ⟨hb, hg⟩ := gc_bif hg
    obtain rfl := Nat.eq_of_beq_eq_true hb
    obtain ⟨q, hq, hg⟩ := gc_bind hg
    obtain rfl := Option.some.inj hg
    exact gc_metP (maxL := 1) (lf := true) hl gc_pnX3 rfl gb_oX3 gc_rk_X3_supervisedLessons gb_nX3 hM gc_ck_X3_supervisedLessons (t_X3_supervisedLessons σ _ hq) gd_hoI rfl (fun v hv => by cases hv; exact Or.inl rfl) (Nat.le_of_ble_eq_true rfl) rfl
  · cases hg
theorem gc_rk_X3_openLessons : cl_X3_openLessons.all (gb_rk gb_flX3 gb_slX3 gb_nlX3 gb_llX3 gb_tlX3 cX3_openLessons) = true := by decide +kernel
theorem gc_ck_X3_openLessons : cl_X3_openLessons.all (gc_ck gb_lkX3 gb_lnX3 [97] 2) = true := by decide +kernel
theorem gm_99 (hl : l.stackTraces = false) : gc_MM l D cA ad A adV 99 := by
  refine ⟨gb_T99, fun h => absurd h (by decide +kernel), fun as σ o hg => ?_⟩
  have hM : ∀ mid ∈ ([97] : List Nat), gc_MM l D cA ad A adV mid := (List.forall_mem_cons.mpr ⟨gm_97 hl, fun _ h => nomatch h⟩)
  replace hg : c_X3_openLessons as gaSH σ some = some o := hg
  unfold c_X3_openLessons at hg
  split at hg
  · skip
    rename_i r0
    obtain ⟨hb, hg⟩ := gc_bif hg
    obtain rfl := Nat.eq_of_beq_eq_true hb
    obtain ⟨q, hq, hg⟩ := gc_bind hg
    obtain rfl := Option.some.inj hg
    exact gc_metP (maxL := 1) (lf := true) hl gc_pnX3 rfl gb_oX3 gc_rk_X3_openLessons gb_nX3 hM gc_ck_X3_openLessons (t_X3_openLessons σ _ hq) gd_hoI rfl (fun v hv => by cases hv; exact Or.inl rfl) (Nat.le_of_ble_eq_true rfl) rfl
  · cases hg
theorem gc_rk_X3_windowsOf : cl_X3_windowsOf.all (gb_rk gb_flX3 gb_slX3 gb_nlX3 gb_llX3 gb_tlX3 cX3_windowsOf) = true := by decide +kernel
theorem gc_ck_X3_windowsOf : cl_X3_windowsOf.all (gc_ck gb_lkX3 gb_lnX3 [58] 2) = true := by decide +kernel
theorem gm_101 (hl : l.stackTraces = false) : gc_MM l D cA ad A adV 101 := by
  refine ⟨gb_T101, fun h => absurd h (by decide +kernel), fun as σ o hg => ?_⟩
  have hM : ∀ mid ∈ ([58] : List Nat), gc_MM l D cA ad A adV mid := (List.forall_mem_cons.mpr ⟨gm_58 hl, fun _ h => nomatch h⟩)
  replace hg : c_X3_windowsOf as gaSH σ some = some o := hg
  unfold c_X3_windowsOf at hg
  split at hg
  · skip
    rename_i r0 r1 a b
    obtain ⟨hb, hg⟩ := gc_bif hg
    obtain ⟨hb0, hb1⟩ := Bool.and_eq_true_iff.mp hb
    obtain rfl := Nat.eq_of_beq_eq_true hb0
    obtain rfl := Nat.eq_of_beq_eq_true hb1
    obtain ⟨q, hq, hg⟩ := gc_bind hg
    obtain rfl := Option.some.inj hg
    exact gc_metP (maxL := 8) (lf := true) hl gc_pnX3 rfl gb_oX3 gc_rk_X3_windowsOf gb_nX3 hM gc_ck_X3_windowsOf (t_X3_windowsOf_23 a b σ _ hq) gd_hoI rfl (fun v hv => by cases hv; exact Or.inl rfl) (Nat.le_of_ble_eq_true rfl) rfl
  · cases hg
theorem gc_rk_X11_spread : cl_X11_spread.all (gb_rk gb_flX11 gb_slX11 gb_nlX11 gb_llX11 gb_tlX11 cX11_spread) = true := by decide +kernel
theorem gc_ck_X11_spread : cl_X11_spread.all (gc_ck gb_lkX11 gb_lnX11 [1, 60] 2) = true := by decide +kernel
theorem gm_103 (hl : l.stackTraces = false) : gc_MM l D cA ad A adV 103 := by
  refine ⟨gb_T103, fun h => absurd h (by decide +kernel), fun as σ o hg => ?_⟩
  have hM : ∀ mid ∈ ([1, 60] : List Nat), gc_MM l D cA ad A adV mid := (List.forall_mem_cons.mpr ⟨gm_1 hl, List.forall_mem_cons.mpr ⟨gm_60 hl, fun _ h => nomatch h⟩⟩)
  replace hg : c_X11_spread as gaSH σ some = some o := hg
  unfold c_X11_spread at hg
  split at hg
  · skip
    rename_i r0
    obtain ⟨hb, hg⟩ := gc_bif hg
    obtain rfl := Nat.eq_of_beq_eq_true hb
    obtain ⟨q, hq, hg⟩ := gc_bind hg
    obtain rfl := Option.some.inj hg
    exact gc_metP (maxL := 6) (lf := true) hl gc_pnX11 rfl gb_oX11 gc_rk_X11_spread gb_nX11 hM gc_ck_X11_spread (t_X11_spread σ _ hq) gd_hoI rfl (fun v hv => by cases hv; exact Or.inl rfl) (Nat.le_of_ble_eq_true rfl) rfl
  · cases hg
theorem gc_rk_X5_writeLesson : cl_X5_writeLesson.all (gb_rk gb_flX5 gb_slX5 gb_nlX5 gb_llX5 gb_tlX5 cX5_writeLesson) = true := by decide +kernel
theorem gc_ck_X5_writeLesson : cl_X5_writeLesson.all (gc_ck gb_lkX5 gb_lnX5 [1, 64, 65, 106] 2) = true := by decide +kernel
theorem gm_107 (hl : l.stackTraces = false) : gc_MM l D cA ad A adV 107 := by
  refine ⟨gb_T107, fun h => absurd h (by decide +kernel), fun as σ o hg => ?_⟩
  have hM : ∀ mid ∈ ([1, 64, 65, 106] : List Nat), gc_MM l D cA ad A adV mid := (List.forall_mem_cons.mpr ⟨gm_1 hl, List.forall_mem_cons.mpr ⟨gm_64 hl, List.forall_mem_cons.mpr ⟨gm_65 hl, List.forall_mem_cons.mpr ⟨gm_106 hl, fun _ h => nomatch h⟩⟩⟩⟩)
  replace hg : c_X5_writeLesson as gaSH σ some = some o := hg
  unfold c_X5_writeLesson at hg
  split at hg
  · skip
    rename_i r0 a
    obtain ⟨hb, hg⟩ := gc_bif hg
    obtain rfl := Nat.eq_of_beq_eq_true hb
    obtain rfl := Option.some.inj hg
    exact gc_metG (maxL := 2) (lf := true) hl gc_pnX5 rfl gb_oX5 gc_rk_X5_writeLesson gb_nX5 hM gc_ck_X5_writeLesson (t_X5_writeLesson a σ _ (e_X5_writeLesson a σ)) gc_hoV rfl (fun v hv => by cases hv; rfl) (Nat.le_of_ble_eq_true rfl) rfl
  · cases hg
theorem gc_rk_X1_restoreLatest : cl_X1_restoreLatest.all (gb_rk gb_flX1 gb_slX1 gb_nlX1 gb_llX1 gb_tlX1 cX1_restoreLatest) = true := by decide +kernel
theorem gc_ck_X1_restoreLatest : cl_X1_restoreLatest.all (gc_ck gb_lkX1 gb_lnX1 [109] 2) = true := by decide +kernel
theorem gm_110 (hl : l.stackTraces = false) : gc_MM l D cA ad A adV 110 := by
  refine ⟨gb_T110, fun h => absurd h (by decide +kernel), fun as σ o hg => ?_⟩
  have hM : ∀ mid ∈ ([109] : List Nat), gc_MM l D cA ad A adV mid := (List.forall_mem_cons.mpr ⟨gm_109 hl, fun _ h => nomatch h⟩)
  replace hg : c_X1_restoreLatest as gaSH σ some = some o := hg
  unfold c_X1_restoreLatest at hg
  split at hg
  · skip
    rename_i r0
    obtain ⟨hb, hg⟩ := gc_bif hg
    obtain rfl := Nat.eq_of_beq_eq_true hb
    obtain ⟨q, hq, hg⟩ := gc_bind hg
    obtain rfl := Option.some.inj hg
    exact gc_metG (maxL := 1) (lf := true) hl gc_pnX1 rfl gb_oX1 gc_rk_X1_restoreLatest gb_nX1 hM gc_ck_X1_restoreLatest (t_X1_restoreLatest σ _ hq) gc_hoV rfl (fun v hv => by cases hv; rfl) (Nat.le_of_ble_eq_true rfl) rfl
  · cases hg
theorem gc_rk_X7_becomeSample : cl_X7_becomeSample.all (gb_rk gb_flX7 gb_slX7 gb_nlX7 gb_llX7 gb_tlX7 cX7_becomeSample) = true := by decide +kernel
theorem gc_ck_X7_becomeSample : cl_X7_becomeSample.all (gc_ck gb_lkX7 gb_lnX7 [7, 24, 26, 30, 38] 2) = true := by decide +kernel
theorem gm_112 (hl : l.stackTraces = false) : gc_MM l D cA ad A adV 112 := by
  refine ⟨gb_T112, fun h => absurd h (by decide +kernel), fun as σ o hg => ?_⟩
  have hM : ∀ mid ∈ ([7, 24, 26, 30, 38] : List Nat), gc_MM l D cA ad A adV mid := (List.forall_mem_cons.mpr ⟨gm_7 hl, List.forall_mem_cons.mpr ⟨gm_24 hl, List.forall_mem_cons.mpr ⟨gm_26 hl, List.forall_mem_cons.mpr ⟨gm_30 hl, List.forall_mem_cons.mpr ⟨gm_38 hl, fun _ h => nomatch h⟩⟩⟩⟩⟩)
  replace hg : c_X7_becomeSample as gaSH σ some = some o := hg
  unfold c_X7_becomeSample at hg
  split at hg
  · skip
    rename_i r0
    obtain ⟨hb, hg⟩ := gc_bif hg
    obtain rfl := Nat.eq_of_beq_eq_true hb
    obtain rfl := Option.some.inj hg
    exact gc_metG (maxL := 1) (lf := true) hl gc_pnX7 rfl gb_oX7 gc_rk_X7_becomeSample gb_nX7 hM gc_ck_X7_becomeSample (t_X7_becomeSample σ _ (e_X7_becomeSample σ)) gc_hoV rfl (fun v hv => by cases hv; rfl) (Nat.le_of_ble_eq_true rfl) rfl
  · cases hg
theorem gc_rk_X10_begin : cl_X10_begin.all (gb_rk gb_flX10 gb_slX10 gb_nlX10 gb_llX10 gb_tlX10 cX10_begin) = true := by decide +kernel
theorem gc_ck_X10_begin : cl_X10_begin.all (gc_ck gb_lkX10 gb_lnX10 [14] 3) = true := by decide +kernel
theorem gm_15 (hl : l.stackTraces = false) : gc_MM l D cA ad A adV 15 := by
  refine ⟨gb_T15, fun h => absurd h (by decide +kernel), fun as σ o hg => ?_⟩
  have hM : ∀ mid ∈ ([14] : List Nat), gc_MM l D cA ad A adV mid := (List.forall_mem_cons.mpr ⟨gm_14 hl, fun _ h => nomatch h⟩)
  replace hg : c_X10_begin as gaSH σ some = some o := hg
  unfold c_X10_begin at hg
  split at hg
  · skip
    rename_i r0
    obtain ⟨hb, hg⟩ := gc_bif hg
    obtain rfl := Nat.eq_of_beq_eq_true hb
    obtain ⟨q, hq, hg⟩ := gc_bind hg
    obtain rfl := Option.some.inj hg
    exact gc_metG (maxL := 1) (lf := true) hl gc_pnX10 rfl gb_oX10 gc_rk_X10_begin gb_nX10 hM gc_ck_X10_begin (t_X10_begin σ _ hq) gc_hoV rfl (fun v hv => by cases hv; rfl) (Nat.le_of_ble_eq_true rfl) rfl
  · cases hg
theorem gc_rk_X8_takeNumber : cl_X8_takeNumber.all (gb_rk gb_flX8 gb_slX8 gb_nlX8 gb_llX8 gb_tlX8 cX8_takeNumber) = true := by decide +kernel
theorem gc_ck_X8_takeNumber : cl_X8_takeNumber.all (gc_ck gb_lkX8 gb_lnX8 [14] 3) = true := by decide +kernel
theorem gm_21 (hl : l.stackTraces = false) : gc_MM l D cA ad A adV 21 := by
  refine ⟨gb_T21, fun h => absurd h (by decide +kernel), fun as σ o hg => ?_⟩
  have hM : ∀ mid ∈ ([14] : List Nat), gc_MM l D cA ad A adV mid := (List.forall_mem_cons.mpr ⟨gm_14 hl, fun _ h => nomatch h⟩)
  replace hg : c_X8_takeNumber as gaSH σ some = some o := hg
  unfold c_X8_takeNumber at hg
  split at hg
  · skip
    rename_i r0
    obtain ⟨hb, hg⟩ := gc_bif hg
    obtain rfl := Nat.eq_of_beq_eq_true hb
    obtain ⟨q, hq, hg⟩ := gc_bind hg
    obtain rfl := Option.some.inj hg
    exact gc_metG (maxL := 2) (lf := true) hl gc_pnX8 rfl gb_oX8 gc_rk_X8_takeNumber gb_nX8 hM gc_ck_X8_takeNumber (t_X8_takeNumber σ _ hq) gc_hoI rfl (fun v hv => by cases hv; exact Or.inl rfl) (Nat.le_of_ble_eq_true rfl) rfl
  · cases hg
end
