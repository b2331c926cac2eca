section
variable {l : Launch} {D : va_G} {cA : Nat → ClassId} {ad : Nat → Nat} {A : Nat → Prop} {adV : Nat → Nat}
theorem gc_rk_X8_takeSemicolon : cl_X8_takeSemicolon.all (gb_rk gb_flX8 gb_slX8 gb_nlX8 gb_llX8 gb_tlX8 cX8_takeSemicolon) = true := by decide +kernel
theorem gc_ck_X8_takeSemicolon : cl_X8_takeSemicolon.all (gc_ck gb_lkX8 gb_lnX8 [14, 18] 3) = true := by decide +kernel
theorem gm_22 (hl : l.stackTraces = false) : gc_MM l D cA ad A adV 22 := by
  refine ⟨gb_T22, fun h => absurd h (by decide +kernel), fun as σ o hg => ?_⟩
  have hM : ∀ mid ∈ ([14, 18] : List Nat), gc_MM l D cA ad A adV mid := (List.forall_mem_cons.mpr ⟨gm_14 hl, List.forall_mem_cons.mpr ⟨gm_18 hl, fun _ h => nomatch h⟩⟩)
  replace hg : c_X8_takeSemicolon as gaSH σ some = some o := hg
  unfold c_X8_takeSemicolon at hg
  split at hg
  · skip
    rename_i r0
    obtain ⟨hb, hg⟩ := gc_bif hg
    obtain rfl := Nat.eq_of_beq_eq_true hb
    obtain ⟨q, hq, hg⟩ := gc_bind hg
    obtain rfl := Option.some.inj hg
    exact gc_metG (maxL := 1) (lf := true) hl gc_pnX8 rfl gb_oX8 gc_rk_X8_takeSemicolon gb_nX8 hM gc_ck_X8_takeSemicolon (t_X8_takeSemicolon σ _ hq) gc_hoI rfl (fun v hv => by cases hv; exact Or.inr ⟨rfl, z_X8_takeSemicolon σ _ hq⟩) (Nat.le_of_ble_eq_true rfl) rfl
  · cases hg
theorem gc_rk_X8_checkUntaken : cl_X8_checkUntaken.all (gb_rk gb_flX8 gb_slX8 gb_nlX8 gb_llX8 gb_tlX8 cX8_checkUntaken) = true := by decide +kernel
theorem gc_ck_X8_checkUntaken : cl_X8_checkUntaken.all (gc_ck gb_lkX8 gb_lnX8 [18, 20, 34] 3) = true := by decide +kernel
theorem gm_35 (hl : l.stackTraces = false) : gc_MM l D cA ad A adV 35 := by
  refine ⟨gb_T35, fun h => absurd h (by decide +kernel), fun as σ o hg => ?_⟩
  have hM : ∀ mid ∈ ([18, 20, 34] : List Nat), gc_MM l D cA ad A adV mid := (List.forall_mem_cons.mpr ⟨gm_18 hl, List.forall_mem_cons.mpr ⟨gm_20 hl, List.forall_mem_cons.mpr ⟨gm_34 hl, fun _ h => nomatch h⟩⟩⟩)
  replace hg : c_X8_checkUntaken as gaSH σ some = some o := hg
  unfold c_X8_checkUntaken at hg
  split at hg
  · skip
    rename_i r0 a r1 b
    rcases gc_bif2 hg with ⟨hb, hg⟩ | hg
    · skip
      obtain ⟨hb0, hb1⟩ := Bool.and_eq_true_iff.mp hb
      obtain rfl := Nat.eq_of_beq_eq_true hb0
      obtain rfl := Nat.eq_of_beq_eq_true hb1
      obtain ⟨q, hq, hg⟩ := gc_bind hg
      obtain rfl := Option.some.inj hg
      exact gc_metG (maxL := 4) (lf := true) hl gc_pnX8 rfl gb_oX8 gc_rk_X8_checkUntaken gb_nX8 hM gc_ck_X8_checkUntaken (t_X8_checkUntaken_58 a b σ _ hq) gc_hoI rfl (fun v hv => by cases hv; exact Or.inr ⟨rfl, z_X8_checkUntaken_58 a b σ _ hq⟩) (Nat.le_of_ble_eq_true rfl) rfl
    · skip
      rcases gc_bif2 hg with ⟨hb, hg⟩ | hg
      · skip
        obtain ⟨hb0, hb1⟩ := Bool.and_eq_true_iff.mp hb
        obtain rfl := Nat.eq_of_beq_eq_true hb0
        obtain rfl := Nat.eq_of_beq_eq_true hb1
        obtain ⟨q, hq, hg⟩ := gc_bind hg
        obtain rfl := Option.some.inj hg
        exact gc_metG (maxL := 4) (lf := true) hl gc_pnX8 rfl gb_oX8 gc_rk_X8_checkUntaken gb_nX8 hM gc_ck_X8_checkUntaken (t_X8_checkUntaken_64 a b σ _ hq) gc_hoI rfl (fun v hv => by cases hv; exact Or.inr ⟨rfl, z_X8_checkUntaken_64 a b σ _ hq⟩) (Nat.le_of_ble_eq_true rfl) rfl
      · skip
        obtain ⟨hb, hg⟩ := gc_bif hg
        obtain ⟨hb0, hb1⟩ := Bool.and_eq_true_iff.mp hb
        obtain rfl := Nat.eq_of_beq_eq_true hb0
        obtain rfl := Nat.eq_of_beq_eq_true hb1
        obtain ⟨q, hq, hg⟩ := gc_bind hg
        obtain rfl := Option.some.inj hg
        exact gc_metG (maxL := 4) (lf := true) hl gc_pnX8 rfl gb_oX8 gc_rk_X8_checkUntaken gb_nX8 hM gc_ck_X8_checkUntaken (t_X8_checkUntaken_66 a b σ _ hq) gc_hoI rfl (fun v hv => by cases hv; exact Or.inr ⟨rfl, z_X8_checkUntaken_66 a b σ _ hq⟩) (Nat.le_of_ble_eq_true rfl) rfl
  · cases hg
theorem gc_rk_X3_returnToFirst : cl_X3_returnToFirst.all (gb_rk gb_flX3 gb_slX3 gb_nlX3 gb_llX3 gb_tlX3 cX3_returnToFirst) = true := by decide +kernel
theorem gc_ck_X3_returnToFirst : cl_X3_returnToFirst.all (gc_ck gb_lkX3 gb_lnX3 [1, 2, 45] 3) = true := by decide +kernel
theorem gm_46 (hl : l.stackTraces = false) : gc_MM l D cA ad A adV 46 := by
  refine ⟨gb_T46, fun h => absurd h (by decide +kernel), fun as σ o hg => ?_⟩
  have hM : ∀ mid ∈ ([1, 2, 45] : List Nat), gc_MM l D cA ad A adV mid := (List.forall_mem_cons.mpr ⟨gm_1 hl, List.forall_mem_cons.mpr ⟨gm_2 hl, List.forall_mem_cons.mpr ⟨gm_45 hl, fun _ h => nomatch h⟩⟩⟩)
  replace hg : c_X3_returnToFirst as gaSH σ some = some o := hg
  unfold c_X3_returnToFirst at hg
  split at hg
  · skip
    rename_i r0
    obtain ⟨hb, hg⟩ := gc_bif hg
    obtain rfl := Nat.eq_of_beq_eq_true hb
    obtain ⟨q, hq, hg⟩ := gc_bind hg
    obtain rfl := Option.some.inj hg
    exact gc_metG (maxL := 4) (lf := true) hl gc_pnX3 rfl gb_oX3 gc_rk_X3_returnToFirst gb_nX3 hM gc_ck_X3_returnToFirst (t_X3_returnToFirst σ _ hq) gc_hoV rfl (fun v hv => by cases hv; rfl) (Nat.le_of_ble_eq_true rfl) rfl
  · cases hg
theorem gc_rk_X4_againstCover : cl_X4_againstCover.all (gb_rk gb_flX4 gb_slX4 gb_nlX4 gb_llX4 gb_tlX4 cX4_againstCover) = true := by decide +kernel
theorem gc_ck_X4_againstCover : cl_X4_againstCover.all (gc_ck gb_lkX4 gb_lnX4 [1, 37, 45, 57, 59, 60] 3) = true := by decide +kernel
theorem gm_61 (hl : l.stackTraces = false) : gc_MM l D cA ad A adV 61 := by
  refine ⟨gb_T61, fun h => absurd h (by decide +kernel), fun as σ o hg => ?_⟩
  have hM : ∀ mid ∈ ([1, 37, 45, 57, 59, 60] : List Nat), gc_MM l D cA ad A adV mid := (List.forall_mem_cons.mpr ⟨gm_1 hl, List.forall_mem_cons.mpr ⟨gm_37 hl, List.forall_mem_cons.mpr ⟨gm_45 hl, List.forall_mem_cons.mpr ⟨gm_57 hl, List.forall_mem_cons.mpr ⟨gm_59 hl, List.forall_mem_cons.mpr ⟨gm_60 hl, fun _ h => nomatch h⟩⟩⟩⟩⟩⟩)
  replace hg : c_X4_againstCover as gaSH σ some = some o := hg
  unfold c_X4_againstCover at hg
  split at hg
  · skip
    rename_i r0 a b
    obtain ⟨hb, hg⟩ := gc_bif hg
    obtain rfl := Nat.eq_of_beq_eq_true hb
    obtain ⟨q, hq, hg⟩ := gc_bind hg
    obtain rfl := Option.some.inj hg
    exact gc_metP (maxL := 4) (lf := true) hl gc_pnX4 rfl gb_oX4 gc_rk_X4_againstCover gb_nX4 hM gc_ck_X4_againstCover (t_X4_againstCover a b σ _ hq) gd_hoI rfl (fun v hv => by cases hv; exact Or.inl rfl) (Nat.le_of_ble_eq_true rfl) rfl
  · cases hg
theorem gc_rk_X4_againstSupervision : cl_X4_againstSupervision.all (gb_rk gb_flX4 gb_slX4 gb_nlX4 gb_llX4 gb_tlX4 cX4_againstSupervision) = true := by decide +kernel
theorem gc_ck_X4_againstSupervision : cl_X4_againstSupervision.all (gc_ck gb_lkX4 gb_lnX4 [1, 43, 45, 59, 64, 66] 3) = true := by decide +kernel
theorem gm_67 (hl : l.stackTraces = false) : gc_MM l D cA ad A adV 67 := by
  refine ⟨gb_T67, fun h => absurd h (by decide +kernel), fun as σ o hg => ?_⟩
  have hM : ∀ mid ∈ ([1, 43, 45, 59, 64, 66] : List Nat), gc_MM l D cA ad A adV mid := (List.forall_mem_cons.mpr ⟨gm_1 hl, List.forall_mem_cons.mpr ⟨gm_43 hl, List.forall_mem_cons.mpr ⟨gm_45 hl, List.forall_mem_cons.mpr ⟨gm_59 hl, List.forall_mem_cons.mpr ⟨gm_64 hl, List.forall_mem_cons.mpr ⟨gm_66 hl, fun _ h => nomatch h⟩⟩⟩⟩⟩⟩)
  replace hg : c_X4_againstSupervision as gaSH σ some = some o := hg
  unfold c_X4_againstSupervision at hg
  split at hg
  · skip
    rename_i r0 a b
    obtain ⟨hb, hg⟩ := gc_bif hg
    obtain rfl := Nat.eq_of_beq_eq_true hb
    obtain ⟨q, hq, hg⟩ := gc_bind hg
    obtain rfl := Option.some.inj hg
    exact gc_metP (maxL := 4) (lf := true) hl gc_pnX4 rfl gb_oX4 gc_rk_X4_againstSupervision gb_nX4 hM gc_ck_X4_againstSupervision (t_X4_againstSupervision a b σ _ hq) gd_hoI rfl (fun v hv => by cases hv; exact Or.inl rfl) (Nat.le_of_ble_eq_true rfl) rfl
  · cases hg
theorem gc_rk_X0_find : cl_X0_find.all (gb_rk gb_flX0 gb_slX0 gb_nlX0 gb_llX0 gb_tlX0 cX0_find) = true := by decide +kernel
theorem gc_ck_X0_find : cl_X0_find.all (gc_ck gb_lkX0 gb_lnX0 [1, 2, 64, 71, 72, 73, 74, 75, 78] 3) = true := by decide +kernel
theorem gm_79 (hl : l.stackTraces = false) : gc_MM l D cA ad A adV 79 := by
  refine ⟨gb_T79, fun h => absurd h (by decide +kernel), fun as σ o hg => ?_⟩
  have hM : ∀ mid ∈ ([1, 2, 64, 71, 72, 73, 74, 75, 78] : List Nat), gc_MM l D cA ad A adV mid := (List.forall_mem_cons.mpr ⟨gm_1 hl, List.forall_mem_cons.mpr ⟨gm_2 hl, List.forall_mem_cons.mpr ⟨gm_64 hl, List.forall_mem_cons.mpr ⟨gm_71 hl, List.forall_mem_cons.mpr ⟨gm_72 hl, List.forall_mem_cons.mpr ⟨gm_73 hl, List.forall_mem_cons.mpr ⟨gm_74 hl, List.forall_mem_cons.mpr ⟨gm_75 hl, List.forall_mem_cons.mpr ⟨gm_78 hl, fun _ h => nomatch h⟩⟩⟩⟩⟩⟩⟩⟩⟩)
  replace hg : c_X0_find as gaSH σ some = some o := hg
  unfold c_X0_find at hg
  split at hg
  · skip
    rename_i r0 a
    obtain ⟨hb, hg⟩ := gc_bif hg
    obtain rfl := Nat.eq_of_beq_eq_true hb
    obtain ⟨q, hq, hg⟩ := gc_bind hg
    obtain rfl := Option.some.inj hg
    exact gc_metG (maxL := 8) (lf := true) hl gc_pnX0 rfl gb_oX0 gc_rk_X0_find gb_nX0 hM gc_ck_X0_find (t_X0_find a σ _ hq) gc_hoI rfl (fun v hv => by cases hv; exact Or.inl rfl) (Nat.le_of_ble_eq_true rfl) rfl
  · cases hg
theorem gc_rk_X4_isTeacherAwayAt : cl_X4_isTeacherAwayAt.all (gb_rk gb_flX4 gb_slX4 gb_nlX4 gb_llX4 gb_tlX4 cX4_isTeacherAwayAt) = true := by decide +kernel
theorem gc_ck_X4_isTeacherAwayAt : cl_X4_isTeacherAwayAt.all (gc_ck gb_lkX4 gb_lnX4 [1, 45] 3) = true := by decide +kernel
theorem gm_83 (hl : l.stackTraces = false) : gc_MM l D cA ad A adV 83 := by
  refine ⟨gb_T83, fun h => absurd h (by decide +kernel), fun as σ o hg => ?_⟩
  have hM : ∀ mid ∈ ([1, 45] : List Nat), gc_MM l D cA ad A adV mid := (List.forall_mem_cons.mpr ⟨gm_1 hl, List.forall_mem_cons.mpr ⟨gm_45 hl, fun _ h => nomatch h⟩⟩)
  replace hg : c_X4_isTeacherAwayAt as gaSH σ some = some o := hg
  unfold c_X4_isTeacherAwayAt at hg
  split at hg
  · skip
    rename_i r0 a b
    obtain ⟨hb, hg⟩ := gc_bif hg
    obtain rfl := Nat.eq_of_beq_eq_true hb
    obtain ⟨q, hq, hg⟩ := gc_bind hg
    obtain rfl := Option.some.inj hg
    exact gc_metP (maxL := 3) (lf := true) hl gc_pnX4 rfl gb_oX4 gc_rk_X4_isTeacherAwayAt gb_nX4 hM gc_ck_X4_isTeacherAwayAt (t_X4_isTeacherAwayAt a b σ _ hq) gd_hoI rfl (fun v hv => by cases hv; exact Or.inr ⟨rfl, z_X4_isTeacherAwayAt a b σ _ hq⟩) (Nat.le_of_ble_eq_true rfl) rfl
  · cases hg
theorem gc_rk_X2_moveToRoom : cl_X2_moveToRoom.all (gb_rk gb_flX2 gb_slX2 gb_nlX2 gb_llX2 gb_tlX2 cX2_moveToRoom) = true := by decide +kernel
theorem gc_ck_X2_moveToRoom : cl_X2_moveToRoom.all (gc_ck gb_lkX2 gb_lnX2 [2, 91] 3) = true := by decide +kernel
theorem gm_92 (hl : l.stackTraces = false) : gc_MM l D cA ad A adV 92 := by
  refine ⟨gb_T92, fun h => absurd h (by decide +kernel), fun as σ o hg => ?_⟩
  have hM : ∀ mid ∈ ([2, 91] : List Nat), gc_MM l D cA ad A adV mid := (List.forall_mem_cons.mpr ⟨gm_2 hl, List.forall_mem_cons.mpr ⟨gm_91 hl, fun _ h => nomatch h⟩⟩)
  replace hg : c_X2_moveToRoom as gaSH σ some = some o := hg
  unfold c_X2_moveToRoom at hg
  split at hg
  · skip
    rename_i r0 a b
    obtain ⟨hb, hg⟩ := gc_bif hg
    obtain rfl := Nat.eq_of_beq_eq_true hb
    obtain ⟨q, hq, hg⟩ := gc_bind hg
    obtain rfl := Option.some.inj hg
    exact gc_metG (maxL := 3) (lf := true) hl gc_pnX2 rfl gb_oX2 gc_rk_X2_moveToRoom gb_nX2 hM gc_ck_X2_moveToRoom (t_X2_moveToRoom a b σ _ hq) gc_hoI rfl (fun v hv => by cases hv; exact Or.inr ⟨rfl, z_X2_moveToRoom a b σ _ hq⟩) (Nat.le_of_ble_eq_true rfl) rfl
  · cases hg
theorem gc_rk_X3_differingLessons : cl_X3_differingLessons.all (gb_rk gb_flX3 gb_slX3 gb_nlX3 gb_llX3 gb_tlX3 cX3_differingLessons) = true := by decide +kernel
theorem gc_ck_X3_differingLessons : cl_X3_differingLessons.all (gc_ck gb_lkX3 gb_lnX3 [94] 3) = true := by decide +kernel
theorem gm_95 (hl : l.stackTraces = false) : gc_MM l D cA ad A adV 95 := by
  refine ⟨gb_T95, fun h => absurd h (by decide +kernel), fun as σ o hg => ?_⟩
  have hM : ∀ mid ∈ ([94] : List Nat), gc_MM l D cA ad A adV mid := (List.forall_mem_cons.mpr ⟨gm_94 hl, fun _ h => nomatch h⟩)
  replace hg : c_X3_differingLessons as gaSH σ some = some o := hg
  unfold c_X3_differingLessons at hg
  split at hg
  · skip
    rename_i r0
    obtain ⟨hb, hg⟩ := gc_bif hg
    obtain rfl := Nat.eq_of_beq_eq_true hb
    obtain ⟨q, hq, hg⟩ := gc_bind hg
    obtain rfl := Option.some.inj hg
    exact gc_metP (maxL := 3) (lf := true) hl gc_pnX3 rfl gb_oX3 gc_rk_X3_differingLessons gb_nX3 hM gc_ck_X3_differingLessons (t_X3_differingLessons σ _ hq) gd_hoI rfl (fun v hv => by cases hv; exact Or.inl rfl) (Nat.le_of_ble_eq_true rfl) rfl
  · cases hg
theorem gc_rk_X3_taughtLessons : cl_X3_taughtLessons.all (gb_rk gb_flX3 gb_slX3 gb_nlX3 gb_llX3 gb_tlX3 cX3_taughtLessons) = true := by decide +kernel
theorem gc_ck_X3_taughtLessons : cl_X3_taughtLessons.all (gc_ck gb_lkX3 gb_lnX3 [98, 99] 3) = true := by decide +kernel
theorem gm_104 (hl : l.stackTraces = false) : gc_MM l D cA ad A adV 104 := by
  refine ⟨gb_T104, fun h => absurd h (by decide +kernel), fun as σ o hg => ?_⟩
  have hM : ∀ mid ∈ ([98, 99] : List Nat), gc_MM l D cA ad A adV mid := (List.forall_mem_cons.mpr ⟨gm_98 hl, List.forall_mem_cons.mpr ⟨gm_99 hl, fun _ h => nomatch h⟩⟩)
  replace hg : c_X3_taughtLessons as gaSH σ some = some o := hg
  unfold c_X3_taughtLessons at hg
  split at hg
  · skip
    rename_i r0
    obtain ⟨hb, hg⟩ := gc_bif hg
    obtain rfl := Nat.eq_of_beq_eq_true hb
    obtain ⟨q, hq, hg⟩ := gc_bind hg
    obtain rfl := Option.some.inj hg
    exact gc_metP (maxL := 1) (lf := true) hl gc_pnX3 rfl gb_oX3 gc_rk_X3_taughtLessons gb_nX3 hM gc_ck_X3_taughtLessons (t_X3_taughtLessons σ _ hq) gd_hoI rfl (fun v hv => by cases hv; exact Or.inl rfl) (Nat.le_of_ble_eq_true rfl) rfl
  · cases hg
theorem gc_rk_X5_write : cl_X5_write.all (gb_rk gb_flX5 gb_slX5 gb_nlX5 gb_llX5 gb_tlX5 cX5_write) = true := by decide +kernel
theorem gc_ck_X5_write : cl_X5_write.all (gc_ck gb_lkX5 gb_lnX5 [58, 106, 107] 3) = true := by decide +kernel
theorem gm_108 (hl : l.stackTraces = false) : gc_MM l D cA ad A adV 108 := by
  refine ⟨gb_T108, fun h => absurd h (by decide +kernel), fun as σ o hg => ?_⟩
  have hM : ∀ mid ∈ ([58, 106, 107] : List Nat), gc_MM l D cA ad A adV mid := (List.forall_mem_cons.mpr ⟨gm_58 hl, List.forall_mem_cons.mpr ⟨gm_106 hl, List.forall_mem_cons.mpr ⟨gm_107 hl, fun _ h => nomatch h⟩⟩⟩)
  replace hg : c_X5_write as gaSH σ some = some o := hg
  unfold c_X5_write at hg
  split at hg
  · skip
    rename_i r0 a
    obtain ⟨hb, hg⟩ := gc_bif hg
    obtain rfl := Nat.eq_of_beq_eq_true hb
    obtain ⟨q, hq, hg⟩ := gc_bind hg
    obtain rfl := Option.some.inj hg
    exact gc_metG (maxL := 4) (lf := true) hl gc_pnX5 rfl gb_oX5 gc_rk_X5_write gb_nX5 hM gc_ck_X5_write (t_X5_write a σ _ hq) gc_hoV rfl (fun v hv => by cases hv; rfl) (Nat.le_of_ble_eq_true rfl) rfl
  · cases hg
theorem gc_rk_X8_readTeacher : cl_X8_readTeacher.all (gb_rk gb_flX8 gb_slX8 gb_nlX8 gb_llX8 gb_tlX8 cX8_readTeacher) = true := by decide +kernel
theorem gc_ck_X8_readTeacher : cl_X8_readTeacher.all (gc_ck gb_lkX8 gb_lnX8 [18, 20, 21, 22, 26, 27] 4) = true := by decide +kernel
theorem gm_28 (hl : l.stackTraces = false) : gc_MM l D cA ad A adV 28 := by
  refine ⟨gb_T28, fun h => absurd h (by decide +kernel), fun as σ o hg => ?_⟩
  have hM : ∀ mid ∈ ([18, 20, 21, 22, 26, 27] : List Nat), gc_MM l D cA ad A adV mid := (List.forall_mem_cons.mpr ⟨gm_18 hl, List.forall_mem_cons.mpr ⟨gm_20 hl, List.forall_mem_cons.mpr ⟨gm_21 hl, List.forall_mem_cons.mpr ⟨gm_22 hl, List.forall_mem_cons.mpr ⟨gm_26 hl, List.forall_mem_cons.mpr ⟨gm_27 hl, fun _ h => nomatch h⟩⟩⟩⟩⟩⟩)
  replace hg : c_X8_readTeacher as gaSH σ some = some o := hg
  unfold c_X8_readTeacher at hg
  split at hg
  · skip
    rename_i r0
    obtain ⟨hb, hg⟩ := gc_bif hg
    obtain rfl := Nat.eq_of_beq_eq_true hb
    obtain ⟨q, hq, hg⟩ := gc_bind hg
    obtain rfl := Option.some.inj hg
    exact gc_metG (maxL := 4) (lf := true) hl gc_pnX8 rfl gb_oX8 gc_rk_X8_readTeacher gb_nX8 hM gc_ck_X8_readTeacher (t_X8_readTeacher σ _ hq) gc_hoI rfl (fun v hv => by cases hv; exact Or.inr ⟨rfl, z_X8_readTeacher σ _ hq⟩) (Nat.le_of_ble_eq_true rfl) rfl
  · cases hg
theorem gc_rk_X8_readLesson : cl_X8_readLesson.all (gb_rk gb_flX8 gb_slX8 gb_nlX8 gb_llX8 gb_tlX8 cX8_readLesson) = true := by decide +kernel
theorem gc_ck_X8_readLesson : cl_X8_readLesson.all (gc_ck gb_lkX8 gb_lnX8 [1, 18, 20, 21, 22, 33, 35, 37, 38] 4) = true := by decide +kernel
theorem gm_39 (hl : l.stackTraces = false) : gc_MM l D cA ad A adV 39 := by
  refine ⟨gb_T39, fun h => absurd h (by decide +kernel), fun as σ o hg => ?_⟩
  have hM : ∀ mid ∈ ([1, 18, 20, 21, 22, 33, 35, 37, 38] : List Nat), gc_MM l D cA ad A adV mid := (List.forall_mem_cons.mpr ⟨gm_1 hl, List.forall_mem_cons.mpr ⟨gm_18 hl, List.forall_mem_cons.mpr ⟨gm_20 hl, List.forall_mem_cons.mpr ⟨gm_21 hl, List.forall_mem_cons.mpr ⟨gm_22 hl, List.forall_mem_cons.mpr ⟨gm_33 hl, List.forall_mem_cons.mpr ⟨gm_35 hl, List.forall_mem_cons.mpr ⟨gm_37 hl, List.forall_mem_cons.mpr ⟨gm_38 hl, fun _ h => nomatch h⟩⟩⟩⟩⟩⟩⟩⟩⟩)
  replace hg : c_X8_readLesson as gaSH σ some = some o := hg
  unfold c_X8_readLesson at hg
  split at hg
  · skip
    rename_i r0
    obtain ⟨hb, hg⟩ := gc_bif hg
    obtain rfl := Nat.eq_of_beq_eq_true hb
    obtain ⟨q, hq, hg⟩ := gc_bind hg
    obtain rfl := Option.some.inj hg
    exact gc_metG (maxL := 5) (lf := true) hl gc_pnX8 rfl gb_oX8 gc_rk_X8_readLesson gb_nX8 hM gc_ck_X8_readLesson (t_X8_readLesson σ _ hq) gc_hoI rfl (fun v hv => by cases hv; exact Or.inr ⟨rfl, z_X8_readLesson σ _ hq⟩) (Nat.le_of_ble_eq_true rfl) rfl
  · cases hg
theorem gc_rk_X3_begin : cl_X3_begin.all (gb_rk gb_flX3 gb_slX3 gb_nlX3 gb_llX3 gb_tlX3 cX3_begin) = true := by decide +kernel
theorem gc_ck_X3_begin : cl_X3_begin.all (gc_ck gb_lkX3 gb_lnX3 [2, 46] 4) = true := by decide +kernel
theorem gm_47 (hl : l.stackTraces = false) : gc_MM l D cA ad A adV 47 := by
  refine ⟨gb_T47, fun h => absurd h (by decide +kernel), fun as σ o hg => ?_⟩
  have hM : ∀ mid ∈ ([2, 46] : List Nat), gc_MM l D cA ad A adV mid := (List.forall_mem_cons.mpr ⟨gm_2 hl, List.forall_mem_cons.mpr ⟨gm_46 hl, fun _ h => nomatch h⟩⟩)
  replace hg : c_X3_begin as gaSH σ some = some o := hg
  unfold c_X3_begin at hg
  split at hg
  · skip
    rename_i r0
    obtain ⟨hb, hg⟩ := gc_bif hg
    obtain rfl := Nat.eq_of_beq_eq_true hb
    obtain ⟨q, hq, hg⟩ := gc_bind hg
    obtain rfl := Option.some.inj hg
    exact gc_metG (maxL := 2) (lf := true) hl gc_pnX3 rfl gb_oX3 gc_rk_X3_begin gb_nX3 hM gc_ck_X3_begin (t_X3_begin σ _ hq) gc_hoV rfl (fun v hv => by cases hv; rfl) (Nat.le_of_ble_eq_true rfl) rfl
  · cases hg
theorem gc_rk_X2_letCover : cl_X2_letCover.all (gb_rk gb_flX2 gb_slX2 gb_nlX2 gb_llX2 gb_tlX2 cX2_letCover) = true := by decide +kernel
theorem gc_ck_X2_letCover : cl_X2_letCover.all (gc_ck gb_lkX2 gb_lnX2 [61, 62] 4) = true := by decide +kernel
theorem gm_63 (hl : l.stackTraces = false) : gc_MM l D cA ad A adV 63 := by
  refine ⟨gb_T63, fun h => absurd h (by decide +kernel), fun as σ o hg => ?_⟩
  have hM : ∀ mid ∈ ([61, 62] : List Nat), gc_MM l D cA ad A adV mid := (List.forall_mem_cons.mpr ⟨gm_61 hl, List.forall_mem_cons.mpr ⟨gm_62 hl, fun _ h => nomatch h⟩⟩)
  replace hg : c_X2_letCover as gaSH σ some = some o := hg
  unfold c_X2_letCover at hg
  split at hg
  · skip
    rename_i r0 a b
    obtain ⟨hb, hg⟩ := gc_bif hg
    obtain rfl := Nat.eq_of_beq_eq_true hb
    obtain ⟨q, hq, hg⟩ := gc_bind hg
    obtain rfl := Option.some.inj hg
    exact gc_metG (maxL := 3) (lf := true) hl gc_pnX2 rfl gb_oX2 gc_rk_X2_letCover gb_nX2 hM gc_ck_X2_letCover (t_X2_letCover a b σ _ hq) gc_hoI rfl (fun v hv => by cases hv; exact Or.inr ⟨rfl, z_X2_letCover a b σ _ hq⟩) (Nat.le_of_ble_eq_true rfl) rfl
  · cases hg
theorem gc_rk_X2_letSupervise : cl_X2_letSupervise.all (gb_rk gb_flX2 gb_slX2 gb_nlX2 gb_llX2 gb_tlX2 cX2_letSupervise) = true := by decide +kernel
theorem gc_ck_X2_letSupervise : cl_X2_letSupervise.all (gc_ck gb_lkX2 gb_lnX2 [67, 68] 4) = true := by decide +kernel
theorem gm_69 (hl : l.stackTraces = false) : gc_MM l D cA ad A adV 69 := by
  refine ⟨gb_T69, fun h => absurd h (by decide +kernel), fun as σ o hg => ?_⟩
  have hM : ∀ mid ∈ ([67, 68] : List Nat), gc_MM l D cA ad A adV mid := (List.forall_mem_cons.mpr ⟨gm_67 hl, List.forall_mem_cons.mpr ⟨gm_68 hl, fun _ h => nomatch h⟩⟩)
  replace hg : c_X2_letSupervise as gaSH σ some = some o := hg
  unfold c_X2_letSupervise at hg
  split at hg
  · skip
    rename_i r0 a b
    obtain ⟨hb, hg⟩ := gc_bif hg
    obtain rfl := Nat.eq_of_beq_eq_true hb
    obtain ⟨q, hq, hg⟩ := gc_bind hg
    obtain rfl := Option.some.inj hg
    exact gc_metG (maxL := 3) (lf := true) hl gc_pnX2 rfl gb_oX2 gc_rk_X2_letSupervise gb_nX2 hM gc_ck_X2_letSupervise (t_X2_letSupervise a b σ _ hq) gc_hoI rfl (fun v hv => by cases hv; exact Or.inr ⟨rfl, z_X2_letSupervise a b σ _ hq⟩) (Nat.le_of_ble_eq_true rfl) rfl
  · cases hg
theorem gc_rk_X2_repairByChain : cl_X2_repairByChain.all (gb_rk gb_flX2 gb_slX2 gb_nlX2 gb_llX2 gb_tlX2 cX2_repairByChain) = true := by decide +kernel
theorem gc_ck_X2_repairByChain : cl_X2_repairByChain.all (gc_ck gb_lkX2 gb_lnX2 [1, 58, 62, 79] 4) = true := by decide +kernel
theorem gm_80 (hl : l.stackTraces = false) : gc_MM l D cA ad A adV 80 := by
  refine ⟨gb_T80, fun h => absurd h (by decide +kernel), fun as σ o hg => ?_⟩
  have hM : ∀ mid ∈ ([1, 58, 62, 79] : List Nat), gc_MM l D cA ad A adV mid := (List.forall_mem_cons.mpr ⟨gm_1 hl, List.forall_mem_cons.mpr ⟨gm_58 hl, List.forall_mem_cons.mpr ⟨gm_62 hl, List.forall_mem_cons.mpr ⟨gm_79 hl, fun _ h => nomatch h⟩⟩⟩⟩)
  replace hg : c_X2_repairByChain as gaSH σ some = some o := hg
  unfold c_X2_repairByChain at hg
  split at hg
  · skip
    rename_i r0 a
    obtain ⟨hb, hg⟩ := gc_bif hg
    obtain rfl := Nat.eq_of_beq_eq_true hb
    obtain ⟨q, hq, hg⟩ := gc_bind hg
    obtain rfl := Option.some.inj hg
    exact gc_metG (maxL := 8) (lf := true) hl gc_pnX2 rfl gb_oX2 gc_rk_X2_repairByChain gb_nX2 hM gc_ck_X2_repairByChain (t_X2_repairByChain a σ _ hq) gc_hoI rfl (fun v hv => by cases hv; exact Or.inr ⟨rfl, z_X2_repairByChain a σ _ hq⟩) (Nat.le_of_ble_eq_true rfl) rfl
  · cases hg
theorem gc_rk_X4_againstExchange : cl_X4_againstExchange.all (gb_rk gb_flX4 gb_slX4 gb_nlX4 gb_llX4 gb_tlX4 cX4_againstExchange) = true := by decide +kernel
theorem gc_ck_X4_againstExchange : cl_X4_againstExchange.all (gc_ck gb_lkX4 gb_lnX4 [1, 64, 83, 84] 4) = true := by decide +kernel
theorem gm_85 (hl : l.stackTraces = false) : gc_MM l D cA ad A adV 85 := by
  refine ⟨gb_T85, fun h => absurd h (by decide +kernel), fun as σ o hg => ?_⟩
  have hM : ∀ mid ∈ ([1, 64, 83, 84] : List Nat), gc_MM l D cA ad A adV mid := (List.forall_mem_cons.mpr ⟨gm_1 hl, List.forall_mem_cons.mpr ⟨gm_64 hl, List.forall_mem_cons.mpr ⟨gm_83 hl, List.forall_mem_cons.mpr ⟨gm_84 hl, fun _ h => nomatch h⟩⟩⟩⟩)
  replace hg : c_X4_againstExchange as gaSH σ some = some o := hg
  unfold c_X4_againstExchange at hg
  split at hg
  · skip
    rename_i r0 a b
    obtain ⟨hb, hg⟩ := gc_bif hg
    obtain rfl := Nat.eq_of_beq_eq_true hb
    obtain ⟨q, hq, hg⟩ := gc_bind hg
    obtain rfl := Option.some.inj hg
    exact gc_metP (maxL := 3) (lf := true) hl gc_pnX4 rfl gb_oX4 gc_rk_X4_againstExchange gb_nX4 hM gc_ck_X4_againstExchange (t_X4_againstExchange a b σ _ hq) gd_hoI rfl (fun v hv => by cases hv; exact Or.inl rfl) (Nat.le_of_ble_eq_true rfl) rfl
  · cases hg
theorem gc_rk_X4_againstMove : cl_X4_againstMove.all (gb_rk gb_flX4 gb_slX4 gb_nlX4 gb_llX4 gb_tlX4 cX4_againstMove) = true := by decide +kernel
theorem gc_ck_X4_againstMove : cl_X4_againstMove.all (gc_ck gb_lkX4 gb_lnX4 [1, 58, 59, 64, 83] 4) = true := by decide +kernel
theorem gm_88 (hl : l.stackTraces = false) : gc_MM l D cA ad A adV 88 := by
  refine ⟨gb_T88, fun h => absurd h (by decide +kernel), fun as σ o hg => ?_⟩
  have hM : ∀ mid ∈ ([1, 58, 59, 64, 83] : List Nat), gc_MM l D cA ad A adV mid := (List.forall_mem_cons.mpr ⟨gm_1 hl, List.forall_mem_cons.mpr ⟨gm_58 hl, List.forall_mem_cons.mpr ⟨gm_59 hl, List.forall_mem_cons.mpr ⟨gm_64 hl, List.forall_mem_cons.mpr ⟨gm_83 hl, fun _ h => nomatch h⟩⟩⟩⟩⟩)
  replace hg : c_X4_againstMove as gaSH σ some = some o := hg
  unfold c_X4_againstMove at hg
  split at hg
  · skip
    rename_i r0 a b
    obtain ⟨hb, hg⟩ := gc_bif hg
    obtain rfl := Nat.eq_of_beq_eq_true hb
    obtain ⟨q, hq, hg⟩ := gc_bind hg
    obtain rfl := Option.some.inj hg
    exact gc_metP (maxL := 3) (lf := true) hl gc_pnX4 rfl gb_oX4 gc_rk_X4_againstMove gb_nX4 hM gc_ck_X4_againstMove (t_X4_againstMove a b σ _ hq) gd_hoI rfl (fun v hv => by cases hv; exact Or.inl rfl) (Nat.le_of_ble_eq_true rfl) rfl
  · cases hg
theorem gc_rk_X11_reset : cl_X11_reset.all (gb_rk gb_flX11 gb_slX11 gb_nlX11 gb_llX11 gb_tlX11 cX11_reset) = true := by decide +kernel
theorem gc_ck_X11_reset : cl_X11_reset.all (gc_ck gb_lkX11 gb_lnX11 [46, 52, 55, 95] 4) = true := by decide +kernel
theorem gm_96 (hl : l.stackTraces = false) : gc_MM l D cA ad A adV 96 := by
  refine ⟨gb_T96, fun h => absurd h (by decide +kernel), fun as σ o hg => ?_⟩
  have hM : ∀ mid ∈ ([46, 52, 55, 95] : List Nat), gc_MM l D cA ad A adV mid := (List.forall_mem_cons.mpr ⟨gm_46 hl, List.forall_mem_cons.mpr ⟨gm_52 hl, List.forall_mem_cons.mpr ⟨gm_55 hl, List.forall_mem_cons.mpr ⟨gm_95 hl, fun _ h => nomatch h⟩⟩⟩⟩)
  replace hg : c_X11_reset as gaSH σ some = some o := hg
  unfold c_X11_reset at hg
  split at hg
  · skip
    rename_i r0
    obtain ⟨hb, hg⟩ := gc_bif hg
    obtain rfl := Nat.eq_of_beq_eq_true hb
    obtain ⟨q, hq, hg⟩ := gc_bind hg
    obtain rfl := Option.some.inj hg
    exact gc_metG (maxL := 2) (lf := true) hl gc_pnX11 rfl gb_oX11 gc_rk_X11_reset gb_nX11 hM gc_ck_X11_reset (t_X11_reset σ _ hq) gc_hoI rfl (fun v hv => by cases hv; exact Or.inl rfl) (Nat.le_of_ble_eq_true rfl) rfl
  · cases hg
theorem gc_rk_X11_taughtShare : cl_X11_taughtShare.all (gb_rk gb_flX11 gb_slX11 gb_nlX11 gb_llX11 gb_tlX11 cX11_taughtShare) = true := by decide +kernel
theorem gc_ck_X11_taughtShare : cl_X11_taughtShare.all (gc_ck gb_lkX11 gb_lnX11 [104] 4) = true := by decide +kernel
theorem gm_105 (hl : l.stackTraces = false) : gc_MM l D cA ad A adV 105 := by
  refine ⟨gb_T105, fun h => absurd h (by decide +kernel), fun as σ o hg => ?_⟩
  have hM : ∀ mid ∈ ([104] : List Nat), gc_MM l D cA ad A adV mid := (List.forall_mem_cons.mpr ⟨gm_104 hl, fun _ h => nomatch h⟩)
  replace hg : c_X11_taughtShare as gaSH σ some = some o := hg
  unfold c_X11_taughtShare at hg
  split at hg
  · skip
    rename_i r0
    obtain ⟨hb, hg⟩ := gc_bif hg
    obtain rfl := Nat.eq_of_beq_eq_true hb
    obtain ⟨q, hq, hg⟩ := gc_bind hg
    obtain rfl := Option.some.inj hg
    exact gc_metP (maxL := 1) (lf := true) hl gc_pnX11 rfl gb_oX11 gc_rk_X11_taughtShare gb_nX11 hM gc_ck_X11_taughtShare (t_X11_taughtShare σ _ hq) gd_hoD rfl (fun v hv => by cases hv; rfl) (Nat.le_of_ble_eq_true rfl) rfl
  · cases hg
theorem gc_rk_X10_isWord : cl_X10_isWord.all (gb_rk gb_flX10 gb_slX10 gb_nlX10 gb_llX10 gb_tlX10 cX10_isWord) = true := by decide +kernel
theorem gc_ck_X10_isWord : cl_X10_isWord.all (gc_ck gb_lkX10 gb_lnX10 [1, 4, 5] 5) = true := by decide +kernel
theorem gm_16 (hl : l.stackTraces = false) : gc_MM l D cA ad A adV 16 := by
  refine ⟨gb_T16, fun h => absurd h (by decide +kernel), fun as σ o hg => ?_⟩
  have hM : ∀ mid ∈ ([1, 4, 5] : List Nat), gc_MM l D cA ad A adV mid := (List.forall_mem_cons.mpr ⟨gm_1 hl, List.forall_mem_cons.mpr ⟨gm_4 hl, List.forall_mem_cons.mpr ⟨gm_5 hl, fun _ h => nomatch h⟩⟩⟩)
  replace hg : c_X10_isWord as gaSH σ some = some o := hg
  unfold c_X10_isWord at hg
  split at hg
  · skip
    rename_i r0 a
    obtain ⟨hb, hg⟩ := gc_bif hg
    obtain rfl := Nat.eq_of_beq_eq_true hb
    obtain ⟨q, hq, hg⟩ := gc_bind hg
    obtain rfl := Option.some.inj hg
    exact gc_metP (maxL := 3) (lf := true) hl gc_pnX10 rfl gb_oX10 gc_rk_X10_isWord gb_nX10 hM gc_ck_X10_isWord (t_X10_isWord a σ _ hq) gd_hoI rfl (fun v hv => by cases hv; exact Or.inr ⟨rfl, z_X10_isWord a σ _ hq⟩) (Nat.le_of_ble_eq_true rfl) rfl
  · cases hg
theorem gc_rk_X2_repairOpenLessons : cl_X2_repairOpenLessons.all (gb_rk gb_flX2 gb_slX2 gb_nlX2 gb_llX2 gb_tlX2 cX2_repairOpenLessons) = true := by decide +kernel
theorem gc_ck_X2_repairOpenLessons : cl_X2_repairOpenLessons.all (gc_ck gb_lkX2 gb_lnX2 [80] 5) = true := by decide +kernel
theorem gm_81 (hl : l.stackTraces = false) : gc_MM l D cA ad A adV 81 := by
  refine ⟨gb_T81, fun h => absurd h (by decide +kernel), fun as σ o hg => ?_⟩
  have hM : ∀ mid ∈ ([80] : List Nat), gc_MM l D cA ad A adV mid := (List.forall_mem_cons.mpr ⟨gm_80 hl, fun _ h => nomatch h⟩)
  replace hg : c_X2_repairOpenLessons as gaSH σ some = some o := hg
  unfold c_X2_repairOpenLessons at hg
  split at hg
  · skip
    rename_i r0
    obtain ⟨hb, hg⟩ := gc_bif hg
    obtain rfl := Nat.eq_of_beq_eq_true hb
    obtain ⟨q, hq, hg⟩ := gc_bind hg
    obtain rfl := Option.some.inj hg
    exact gc_metG (maxL := 3) (lf := true) hl gc_pnX2 rfl gb_oX2 gc_rk_X2_repairOpenLessons gb_nX2 hM gc_ck_X2_repairOpenLessons (t_X2_repairOpenLessons σ _ hq) gc_hoI rfl (fun v hv => by cases hv; exact Or.inl rfl) (Nat.le_of_ble_eq_true rfl) rfl
  · cases hg
theorem gc_rk_X2_swapSlots : cl_X2_swapSlots.all (gb_rk gb_flX2 gb_slX2 gb_nlX2 gb_llX2 gb_tlX2 cX2_swapSlots) = true := by decide +kernel
theorem gc_ck_X2_swapSlots : cl_X2_swapSlots.all (gc_ck gb_lkX2 gb_lnX2 [1, 2, 85] 5) = true := by decide +kernel
theorem gm_86 (hl : l.stackTraces = false) : gc_MM l D cA ad A adV 86 := by
  refine ⟨gb_T86, fun h => absurd h (by decide +kernel), fun as σ o hg => ?_⟩
  have hM : ∀ mid ∈ ([1, 2, 85] : List Nat), gc_MM l D cA ad A adV mid := (List.forall_mem_cons.mpr ⟨gm_1 hl, List.forall_mem_cons.mpr ⟨gm_2 hl, List.forall_mem_cons.mpr ⟨gm_85 hl, fun _ h => nomatch h⟩⟩⟩)
  replace hg : c_X2_swapSlots as gaSH σ some = some o := hg
  unfold c_X2_swapSlots at hg
  split at hg
  · skip
    rename_i r0 a b
    obtain ⟨hb, hg⟩ := gc_bif hg
    obtain rfl := Nat.eq_of_beq_eq_true hb
    obtain ⟨q, hq, hg⟩ := gc_bind hg
    obtain rfl := Option.some.inj hg
    exact gc_metG (maxL := 4) (lf := true) hl gc_pnX2 rfl gb_oX2 gc_rk_X2_swapSlots gb_nX2 hM gc_ck_X2_swapSlots (t_X2_swapSlots a b σ _ hq) gc_hoI rfl (fun v hv => by cases hv; exact Or.inr ⟨rfl, z_X2_swapSlots a b σ _ hq⟩) (Nat.le_of_ble_eq_true rfl) rfl
  · cases hg
theorem gc_rk_X2_moveToSlot : cl_X2_moveToSlot.all (gb_rk gb_flX2 gb_slX2 gb_nlX2 gb_llX2 gb_tlX2 cX2_moveToSlot) = true := by decide +kernel
theorem gc_ck_X2_moveToSlot : cl_X2_moveToSlot.all (gc_ck gb_lkX2 gb_lnX2 [2, 88] 5) = true := by decide +kernel
theorem gm_89 (hl : l.stackTraces = false) : gc_MM l D cA ad A adV 89 := by
  refine ⟨gb_T89, fun h => absurd h (by decide +kernel), fun as σ o hg => ?_⟩
  have hM : ∀ mid ∈ ([2, 88] : List Nat), gc_MM l D cA ad A adV mid := (List.forall_mem_cons.mpr ⟨gm_2 hl, List.forall_mem_cons.mpr ⟨gm_88 hl, fun _ h => nomatch h⟩⟩)
  replace hg : c_X2_moveToSlot as gaSH σ some = some o := hg
  unfold c_X2_moveToSlot at hg
  split at hg
  · skip
    rename_i r0 a b
    obtain ⟨hb, hg⟩ := gc_bif hg
    obtain rfl := Nat.eq_of_beq_eq_true hb
    obtain ⟨q, hq, hg⟩ := gc_bind hg
    obtain rfl := Option.some.inj hg
    exact gc_metG (maxL := 3) (lf := true) hl gc_pnX2 rfl gb_oX2 gc_rk_X2_moveToSlot gb_nX2 hM gc_ck_X2_moveToSlot (t_X2_moveToSlot a b σ _ hq) gc_hoI rfl (fun v hv => by cases hv; exact Or.inr ⟨rfl, z_X2_moveToSlot a b σ _ hq⟩) (Nat.le_of_ble_eq_true rfl) rfl
  · cases hg
theorem gc_rk_X11_appendText : cl_X11_appendText.all (gb_rk gb_flX11 gb_slX11 gb_nlX11 gb_llX11 gb_tlX11 cX11_appendText) = true := by decide +kernel
theorem gc_ck_X11_appendText : cl_X11_appendText.all (gc_ck gb_lkX11 gb_lnX11 [6] 5) = true := by decide +kernel
theorem gm_400 (hl : l.stackTraces = false) : gc_MM l D cA ad A adV 400 := by
  refine ⟨gb_T400, fun h => absurd h (by decide +kernel), fun as σ o hg => ?_⟩
  have hM : ∀ mid ∈ ([6] : List Nat), gc_MM l D cA ad A adV mid := (List.forall_mem_cons.mpr ⟨gm_6 hl, fun _ h => nomatch h⟩)
  replace hg : c_X11_appendText as gaSH σ some = some o := hg
  unfold c_X11_appendText at hg
  split at hg
  · skip
    rename_i r0 a b c d e
    obtain ⟨hb, hg⟩ := gc_bif hg
    obtain rfl := Nat.eq_of_beq_eq_true hb
    obtain ⟨q, hq, hg⟩ := gc_bind hg
    obtain ⟨q, s1⟩ := q
    cases q with
    | inl x =>
      obtain rfl := Option.some.inj hg
      exact gc_metG (maxL := 6) (lf := true) hl gc_pnX11 rfl gb_oX11 gc_rk_X11_appendText gb_nX11 hM gc_ck_X11_appendText (t_X11_appendText a b c d e σ _ hq) gc_hoIXl rfl (fun v hv => by cases hv; exact Or.inl rfl) (Nat.le_of_ble_eq_true rfl) rfl
    | inr E =>
      obtain rfl := Option.some.inj hg
      exact gc_metG (maxL := 6) (lf := true) hl gc_pnX11 rfl gb_oX11 gc_rk_X11_appendText gb_nX11 hM gc_ck_X11_appendText (t_X11_appendText a b c d e σ _ hq) gc_hoIXr rfl (fun v hv => by cases hv) (Nat.le_of_ble_eq_true rfl) rfl
  · cases hg
theorem gc_rk_X11_truncateText : cl_X11_truncateText.all (gb_rk gb_flX11 gb_slX11 gb_nlX11 gb_llX11 gb_tlX11 cX11_truncateText) = true := by decide +kernel
theorem gc_ck_X11_truncateText : cl_X11_truncateText.all (gc_ck gb_lkX11 gb_lnX11 [] 5) = true := by decide +kernel
theorem gm_401 (hl : l.stackTraces = false) : gc_MM l D cA ad A adV 401 := by
  refine ⟨gb_T401, fun h => absurd h (by decide +kernel), fun as σ o hg => ?_⟩
  have hM : ∀ mid ∈ ([] : List Nat), gc_MM l D cA ad A adV mid := (fun _ h => nomatch h)
  replace hg : c_X11_truncateText as gaSH σ some = some o := hg
  unfold c_X11_truncateText at hg
  split at hg
  · skip
    rename_i r0 a
    obtain ⟨hb, hg⟩ := gc_bif hg
    obtain rfl := Nat.eq_of_beq_eq_true hb
    obtain ⟨q, hq, hg⟩ := gc_bind hg
    obtain ⟨q, s1⟩ := q
    cases q with
    | inl x =>
      obtain rfl := Option.some.inj hg
      exact gc_metG (maxL := 2) (lf := true) hl gc_pnX11 rfl gb_oX11 gc_rk_X11_truncateText gb_nX11 hM gc_ck_X11_truncateText (t_X11_truncateText a σ _ hq) gc_hoIXl rfl (fun v hv => by cases hv; exact Or.inl rfl) (Nat.le_of_ble_eq_true rfl) rfl
    | inr E =>
      obtain rfl := Option.some.inj hg
      exact gc_metG (maxL := 2) (lf := true) hl gc_pnX11 rfl gb_oX11 gc_rk_X11_truncateText gb_nX11 hM gc_ck_X11_truncateText (t_X11_truncateText a σ _ hq) gc_hoIXr rfl (fun v hv => by cases hv) (Nat.le_of_ble_eq_true rfl) rfl
  · cases hg
theorem gc_rk_X11_requireTeacher : cl_X11_requireTeacher.all (gb_rk gb_flX11 gb_slX11 gb_nlX11 gb_llX11 gb_tlX11 cX11_requireTeacher) = true := by decide +kernel
theorem gc_ck_X11_requireTeacher : cl_X11_requireTeacher.all (gc_ck gb_lkX11 gb_lnX11 [36] 5) = true := by decide +kernel
theorem gm_402 (hl : l.stackTraces = false) : gc_MM l D cA ad A adV 402 := by
  refine ⟨gb_T402, fun h => absurd h (by decide +kernel), fun as σ o hg => ?_⟩
  have hM : ∀ mid ∈ ([36] : List Nat), gc_MM l D cA ad A adV mid := (List.forall_mem_cons.mpr ⟨gm_36 hl, fun _ h => nomatch h⟩)
  replace hg : c_X11_requireTeacher as gaSH σ some = some o := hg
  unfold c_X11_requireTeacher at hg
  split at hg
  · skip
    rename_i r0 a
    obtain ⟨hb, hg⟩ := gc_bif hg
    obtain rfl := Nat.eq_of_beq_eq_true hb
    have hT := t_X11_requireTeacher a σ _ (e_X11_requireTeacher a σ)
    generalize v_X11_requireTeacher a σ = q at hg hT
    cases q with
    | none =>
      obtain rfl := Option.some.inj hg
      exact gc_metP (maxL := 2) (lf := true) hl gc_pnX11 rfl gb_oX11 gc_rk_X11_requireTeacher gb_nX11 hM gc_ck_X11_requireTeacher (hT) gd_hoVXl rfl (fun v hv => by cases hv; rfl) (Nat.le_of_ble_eq_true rfl) rfl
    | some E =>
      obtain rfl := Option.some.inj hg
      exact gc_metP (maxL := 2) (lf := true) hl gc_pnX11 rfl gb_oX11 gc_rk_X11_requireTeacher gb_nX11 hM gc_ck_X11_requireTeacher (hT) gd_hoVXr rfl (fun v hv => by cases hv) (Nat.le_of_ble_eq_true rfl) rfl
  · cases hg
theorem gc_rk_X11_requireDay : cl_X11_requireDay.all (gb_rk gb_flX11 gb_slX11 gb_nlX11 gb_llX11 gb_tlX11 cX11_requireDay) = true := by decide +kernel
theorem gc_ck_X11_requireDay : cl_X11_requireDay.all (gc_ck gb_lkX11 gb_lnX11 [50] 5) = true := by decide +kernel
theorem gm_403 (hl : l.stackTraces = false) : gc_MM l D cA ad A adV 403 := by
  refine ⟨gb_T403, fun h => absurd h (by decide +kernel), fun as σ o hg => ?_⟩
  have hM : ∀ mid ∈ ([50] : List Nat), gc_MM l D cA ad A adV mid := (List.forall_mem_cons.mpr ⟨gm_50 hl, fun _ h => nomatch h⟩)
  replace hg : c_X11_requireDay as gaSH σ some = some o := hg
  unfold c_X11_requireDay at hg
  split at hg
  · skip
    rename_i r0 a
    obtain ⟨hb, hg⟩ := gc_bif hg
    obtain rfl := Nat.eq_of_beq_eq_true hb
    have hT := t_X11_requireDay a σ _ (e_X11_requireDay a σ)
    generalize v_X11_requireDay a σ = q at hg hT
    cases q with
    | none =>
      obtain rfl := Option.some.inj hg
      exact gc_metP (maxL := 2) (lf := true) hl gc_pnX11 rfl gb_oX11 gc_rk_X11_requireDay gb_nX11 hM gc_ck_X11_requireDay (hT) gd_hoVXl rfl (fun v hv => by cases hv; rfl) (Nat.le_of_ble_eq_true rfl) rfl
    | some E =>
      obtain rfl := Option.some.inj hg
      exact gc_metP (maxL := 2) (lf := true) hl gc_pnX11 rfl gb_oX11 gc_rk_X11_requireDay gb_nX11 hM gc_ck_X11_requireDay (hT) gd_hoVXr rfl (fun v hv => by cases hv) (Nat.le_of_ble_eq_true rfl) rfl
  · cases hg
theorem gc_rk_X11_requireLesson : cl_X11_requireLesson.all (gb_rk gb_flX11 gb_slX11 gb_nlX11 gb_llX11 gb_tlX11 cX11_requireLesson) = true := by decide +kernel
theorem gc_ck_X11_requireLesson : cl_X11_requireLesson.all (gc_ck gb_lkX11 gb_lnX11 [56] 5) = true := by decide +kernel
theorem gm_405 (hl : l.stackTraces = false) : gc_MM l D cA ad A adV 405 := by
  refine ⟨gb_T405, fun h => absurd h (by decide +kernel), fun as σ o hg => ?_⟩
  have hM : ∀ mid ∈ ([56] : List Nat), gc_MM l D cA ad A adV mid := (List.forall_mem_cons.mpr ⟨gm_56 hl, fun _ h => nomatch h⟩)
  replace hg : c_X11_requireLesson as gaSH σ some = some o := hg
  unfold c_X11_requireLesson at hg
  split at hg
  · skip
    rename_i r0 a
    obtain ⟨hb, hg⟩ := gc_bif hg
    obtain rfl := Nat.eq_of_beq_eq_true hb
    have hT := t_X11_requireLesson a σ _ (e_X11_requireLesson a σ)
    generalize v_X11_requireLesson a σ = q at hg hT
    cases q with
    | none =>
      obtain rfl := Option.some.inj hg
      exact gc_metP (maxL := 2) (lf := true) hl gc_pnX11 rfl gb_oX11 gc_rk_X11_requireLesson gb_nX11 hM gc_ck_X11_requireLesson (hT) gd_hoVXl rfl (fun v hv => by cases hv; rfl) (Nat.le_of_ble_eq_true rfl) rfl
    | some E =>
      obtain rfl := Option.some.inj hg
      exact gc_metP (maxL := 2) (lf := true) hl gc_pnX11 rfl gb_oX11 gc_rk_X11_requireLesson gb_nX11 hM gc_ck_X11_requireLesson (hT) gd_hoVXr rfl (fun v hv => by cases hv) (Nat.le_of_ble_eq_true rfl) rfl
  · cases hg
theorem gc_rk_X11_keepUnlessRefused : cl_X11_keepUnlessRefused.all (gb_rk gb_flX11 gb_slX11 gb_nlX11 gb_llX11 gb_tlX11 cX11_keepUnlessRefused) = true := by decide +kernel
theorem gc_ck_X11_keepUnlessRefused : cl_X11_keepUnlessRefused.all (gc_ck gb_lkX11 gb_lnX11 [55] 5) = true := by decide +kernel
theorem gm_406 (hl : l.stackTraces = false) : gc_MM l D cA ad A adV 406 := by
  refine ⟨gb_T406, fun h => absurd h (by decide +kernel), fun as σ o hg => ?_⟩
  have hM : ∀ mid ∈ ([55] : List Nat), gc_MM l D cA ad A adV mid := (List.forall_mem_cons.mpr ⟨gm_55 hl, fun _ h => nomatch h⟩)
  replace hg : c_X11_keepUnlessRefused as gaSH σ some = some o := hg
  unfold c_X11_keepUnlessRefused at hg
  split at hg
  · skip
    rename_i r0 a
    obtain ⟨hb, hg⟩ := gc_bif hg
    obtain rfl := Nat.eq_of_beq_eq_true hb
    obtain ⟨q, hq, hg⟩ := gc_bind hg
    obtain ⟨q, s1⟩ := q
    cases q with
    | none =>
      obtain rfl := Option.some.inj hg
      exact gc_metG (maxL := 2) (lf := true) hl gc_pnX11 rfl gb_oX11 gc_rk_X11_keepUnlessRefused gb_nX11 hM gc_ck_X11_keepUnlessRefused (t_X11_keepUnlessRefused a σ _ hq) gc_hoVXl rfl (fun v hv => by cases hv; rfl) (Nat.le_of_ble_eq_true rfl) rfl
    | some E =>
      obtain rfl := Option.some.inj hg
      exact gc_metG (maxL := 2) (lf := true) hl gc_pnX11 rfl gb_oX11 gc_rk_X11_keepUnlessRefused gb_nX11 hM gc_ck_X11_keepUnlessRefused (t_X11_keepUnlessRefused a σ _ hq) gc_hoVXr rfl (fun v hv => by cases hv) (Nat.le_of_ble_eq_true rfl) rfl
  · cases hg
theorem gc_rk_X11_requireSlot : cl_X11_requireSlot.all (gb_rk gb_flX11 gb_slX11 gb_nlX11 gb_llX11 gb_tlX11 cX11_requireSlot) = true := by decide +kernel
theorem gc_ck_X11_requireSlot : cl_X11_requireSlot.all (gc_ck gb_lkX11 gb_lnX11 [87] 5) = true := by decide +kernel
theorem gm_411 (hl : l.stackTraces = false) : gc_MM l D cA ad A adV 411 := by
  refine ⟨gb_T411, fun h => absurd h (by decide +kernel), fun as σ o hg => ?_⟩
  have hM : ∀ mid ∈ ([87] : List Nat), gc_MM l D cA ad A adV mid := (List.forall_mem_cons.mpr ⟨gm_87 hl, fun _ h => nomatch h⟩)
  replace hg : c_X11_requireSlot as gaSH σ some = some o := hg
  unfold c_X11_requireSlot at hg
  split at hg
  · skip
    rename_i r0 a
    obtain ⟨hb, hg⟩ := gc_bif hg
    obtain rfl := Nat.eq_of_beq_eq_true hb
    have hT := t_X11_requireSlot a σ _ (e_X11_requireSlot a σ)
    generalize v_X11_requireSlot a σ = q at hg hT
    cases q with
    | none =>
      obtain rfl := Option.some.inj hg
      exact gc_metP (maxL := 2) (lf := true) hl gc_pnX11 rfl gb_oX11 gc_rk_X11_requireSlot gb_nX11 hM gc_ck_X11_requireSlot (hT) gd_hoVXl rfl (fun v hv => by cases hv; rfl) (Nat.le_of_ble_eq_true rfl) rfl
    | some E =>
      obtain rfl := Option.some.inj hg
      exact gc_metP (maxL := 2) (lf := true) hl gc_pnX11 rfl gb_oX11 gc_rk_X11_requireSlot gb_nX11 hM gc_ck_X11_requireSlot (hT) gd_hoVXr rfl (fun v hv => by cases hv) (Nat.le_of_ble_eq_true rfl) rfl
  · cases hg
theorem gc_rk_X11_requireRoom : cl_X11_requireRoom.all (gb_rk gb_flX11 gb_slX11 gb_nlX11 gb_llX11 gb_tlX11 cX11_requireRoom) = true := by decide +kernel
theorem gc_ck_X11_requireRoom : cl_X11_requireRoom.all (gc_ck gb_lkX11 gb_lnX11 [90] 5) = true := by decide +kernel
theorem gm_413 (hl : l.stackTraces = false) : gc_MM l D cA ad A adV 413 := by
  refine ⟨gb_T413, fun h => absurd h (by decide +kernel), fun as σ o hg => ?_⟩
  have hM : ∀ mid ∈ ([90] : List Nat), gc_MM l D cA ad A adV mid := (List.forall_mem_cons.mpr ⟨gm_90 hl, fun _ h => nomatch h⟩)
  replace hg : c_X11_requireRoom as gaSH σ some = some o := hg
  unfold c_X11_requireRoom at hg
  split at hg
  · skip
    rename_i r0 a
    obtain ⟨hb, hg⟩ := gc_bif hg
    obtain rfl := Nat.eq_of_beq_eq_true hb
    have hT := t_X11_requireRoom a σ _ (e_X11_requireRoom a σ)
    generalize v_X11_requireRoom a σ = q at hg hT
    cases q with
    | none =>
      obtain rfl := Option.some.inj hg
      exact gc_metP (maxL := 2) (lf := true) hl gc_pnX11 rfl gb_oX11 gc_rk_X11_requireRoom gb_nX11 hM gc_ck_X11_requireRoom (hT) gd_hoVXl rfl (fun v hv => by cases hv; rfl) (Nat.le_of_ble_eq_true rfl) rfl
    | some E =>
      obtain rfl := Option.some.inj hg
      exact gc_metP (maxL := 2) (lf := true) hl gc_pnX11 rfl gb_oX11 gc_rk_X11_requireRoom gb_nX11 hM gc_ck_X11_requireRoom (hT) gd_hoVXr rfl (fun v hv => by cases hv) (Nat.le_of_ble_eq_true rfl) rfl
  · cases hg
theorem gc_rk_X11_count : cl_X11_count.all (gb_rk gb_flX11 gb_slX11 gb_nlX11 gb_llX11 gb_tlX11 cX11_count) = true := by decide +kernel
theorem gc_ck_X11_count : cl_X11_count.all (gc_ck gb_lkX11 gb_lnX11 [95, 98, 99] 5) = true := by decide +kernel
theorem gm_424 (hl : l.stackTraces = false) : gc_MM l D cA ad A adV 424 := by
  refine ⟨gb_T424, fun h => absurd h (by decide +kernel), fun as σ o hg => ?_⟩
  have hM : ∀ mid ∈ ([95, 98, 99] : List Nat), gc_MM l D cA ad A adV mid := (List.forall_mem_cons.mpr ⟨gm_95 hl, List.forall_mem_cons.mpr ⟨gm_98 hl, List.forall_mem_cons.mpr ⟨gm_99 hl, fun _ h => nomatch h⟩⟩⟩)
  replace hg : c_X11_count as gaSH σ some = some o := hg
  unfold c_X11_count at hg
  split at hg
  · skip
    rename_i r0 a
    obtain ⟨hb, hg⟩ := gc_bif hg
    obtain rfl := Nat.eq_of_beq_eq_true hb
    obtain ⟨q, hq, hg⟩ := gc_bind hg
    cases q with
    | inl x =>
      obtain rfl := Option.some.inj hg
      exact gc_metP (maxL := 2) (lf := true) hl gc_pnX11 rfl gb_oX11 gc_rk_X11_count gb_nX11 hM gc_ck_X11_count (t_X11_count a σ _ hq) gd_hoIXl rfl (fun v hv => by cases hv; exact Or.inl rfl) (Nat.le_of_ble_eq_true rfl) rfl
    | inr E =>
      obtain rfl := Option.some.inj hg
      exact gc_metP (maxL := 2) (lf := true) hl gc_pnX11 rfl gb_oX11 gc_rk_X11_count gb_nX11 hM gc_ck_X11_count (t_X11_count a σ _ hq) gd_hoIXr rfl (fun v hv => by cases hv) (Nat.le_of_ble_eq_true rfl) rfl
  · cases hg
theorem gc_rk_X11_subject : cl_X11_subject.all (gb_rk gb_flX11 gb_slX11 gb_nlX11 gb_llX11 gb_tlX11 cX11_subject) = true := by decide +kernel
theorem gc_ck_X11_subject : cl_X11_subject.all (gc_ck gb_lkX11 gb_lnX11 [1, 72, 97] 5) = true := by decide +kernel
theorem gm_428 (hl : l.stackTraces = false) : gc_MM l D cA ad A adV 428 := by
  refine ⟨gb_T428, fun h => absurd h (by decide +kernel), fun as σ o hg => ?_⟩
  have hM : ∀ mid ∈ ([1, 72, 97] : List Nat), gc_MM l D cA ad A adV mid := (List.forall_mem_cons.mpr ⟨gm_1 hl, List.forall_mem_cons.mpr ⟨gm_72 hl, List.forall_mem_cons.mpr ⟨gm_97 hl, fun _ h => nomatch h⟩⟩⟩)
  replace hg : c_X11_subject as gaSH σ some = some o := hg
  unfold c_X11_subject at hg
  split at hg
  · skip
    rename_i r0 a b
    obtain ⟨hb, hg⟩ := gc_bif hg
    obtain rfl := Nat.eq_of_beq_eq_true hb
    obtain ⟨q, hq, hg⟩ := gc_bind hg
    cases q with
    | inl x =>
      obtain rfl := Option.some.inj hg
      exact gc_metP (maxL := 3) (lf := true) hl gc_pnX11 rfl gb_oX11 gc_rk_X11_subject gb_nX11 hM gc_ck_X11_subject (t_X11_subject a b σ _ hq) gd_hoIXl rfl (fun v hv => by cases hv; exact Or.inl rfl) (Nat.le_of_ble_eq_true rfl) rfl
    | inr E =>
      obtain rfl := Option.some.inj hg
      exact gc_metP (maxL := 3) (lf := true) hl gc_pnX11 rfl gb_oX11 gc_rk_X11_subject gb_nX11 hM gc_ck_X11_subject (t_X11_subject a b σ _ hq) gd_hoIXr rfl (fun v hv => by cases hv) (Nat.le_of_ble_eq_true rfl) rfl
  · cases hg
theorem gc_rk_X11_requireClass : cl_X11_requireClass.all (gb_rk gb_flX11 gb_slX11 gb_nlX11 gb_llX11 gb_tlX11 cX11_requireClass) = true := by decide +kernel
theorem gc_ck_X11_requireClass : cl_X11_requireClass.all (gc_ck gb_lkX11 gb_lnX11 [] 5) = true := by decide +kernel
theorem gm_429 (hl : l.stackTraces = false) : gc_MM l D cA ad A adV 429 := by
  refine ⟨gb_T429, fun h => absurd h (by decide +kernel), fun as σ o hg => ?_⟩
  have hM : ∀ mid ∈ ([] : List Nat), gc_MM l D cA ad A adV mid := (fun _ h => nomatch h)
  replace hg : c_X11_requireClass as gaSH σ some = some o := hg
  unfold c_X11_requireClass at hg
  split at hg
  · skip
    rename_i r0 a
    obtain ⟨hb, hg⟩ := gc_bif hg
    obtain rfl := Nat.eq_of_beq_eq_true hb
    have hT := t_X11_requireClass a σ _ (e_X11_requireClass a σ)
    generalize v_X11_requireClass a σ = q at hg hT
    cases q with
    | none =>
      obtain rfl := Option.some.inj hg
      exact gc_metP (maxL := 2) (lf := true) hl gc_pnX11 rfl gb_oX11 gc_rk_X11_requireClass gb_nX11 hM gc_ck_X11_requireClass (hT) gd_hoVXl rfl (fun v hv => by cases hv; rfl) (Nat.le_of_ble_eq_true rfl) rfl
    | some E =>
      obtain rfl := Option.some.inj hg
      exact gc_metP (maxL := 2) (lf := true) hl gc_pnX11 rfl gb_oX11 gc_rk_X11_requireClass gb_nX11 hM gc_ck_X11_requireClass (hT) gd_hoVXr rfl (fun v hv => by cases hv) (Nat.le_of_ble_eq_true rfl) rfl
  · cases hg
theorem gc_rk_X11_undo : cl_X11_undo.all (gb_rk gb_flX11 gb_slX11 gb_nlX11 gb_llX11 gb_tlX11 cX11_undo) = true := by decide +kernel
theorem gc_ck_X11_undo : cl_X11_undo.all (gc_ck gb_lkX11 gb_lnX11 [110] 5) = true := by decide +kernel
theorem gm_437 (hl : l.stackTraces = false) : gc_MM l D cA ad A adV 437 := by
  refine ⟨gb_T437, fun h => absurd h (by decide +kernel), fun as σ o hg => ?_⟩
  have hM : ∀ mid ∈ ([110] : List Nat), gc_MM l D cA ad A adV mid := (List.forall_mem_cons.mpr ⟨gm_110 hl, fun _ h => nomatch h⟩)
  replace hg : c_X11_undo as gaSH σ some = some o := hg
  unfold c_X11_undo at hg
  split at hg
  · skip
    rename_i r0
    obtain ⟨hb, hg⟩ := gc_bif hg
    obtain rfl := Nat.eq_of_beq_eq_true hb
    obtain ⟨q, hq, hg⟩ := gc_bind hg
    obtain ⟨q, s1⟩ := q
    cases q with
    | inl x =>
      obtain rfl := Option.some.inj hg
      exact gc_metG (maxL := 1) (lf := true) hl gc_pnX11 rfl gb_oX11 gc_rk_X11_undo gb_nX11 hM gc_ck_X11_undo (t_X11_undo σ _ hq) gc_hoIXl rfl (fun v hv => by cases hv; exact Or.inl rfl) (Nat.le_of_ble_eq_true rfl) rfl
    | inr E =>
      obtain rfl := Option.some.inj hg
      exact gc_metG (maxL := 1) (lf := true) hl gc_pnX11 rfl gb_oX11 gc_rk_X11_undo gb_nX11 hM gc_ck_X11_undo (t_X11_undo σ _ hq) gc_hoIXr rfl (fun v hv => by cases hv) (Nat.le_of_ble_eq_true rfl) rfl
  · cases hg
theorem gc_rk_X8_takeWord : cl_X8_takeWord.all (gb_rk gb_flX8 gb_slX8 gb_nlX8 gb_llX8 gb_tlX8 cX8_takeWord) = true := by decide +kernel
theorem gc_ck_X8_takeWord : cl_X8_takeWord.all (gc_ck gb_lkX8 gb_lnX8 [14, 16, 18] 6) = true := by decide +kernel
theorem gm_19 (hl : l.stackTraces = false) : gc_MM l D cA ad A adV 19 := by
  refine ⟨gb_T19, fun h => absurd h (by decide +kernel), fun as σ o hg => ?_⟩
  have hM : ∀ mid ∈ ([14, 16, 18] : List Nat), gc_MM l D cA ad A adV mid := (List.forall_mem_cons.mpr ⟨gm_14 hl, List.forall_mem_cons.mpr ⟨gm_16 hl, List.forall_mem_cons.mpr ⟨gm_18 hl, fun _ h => nomatch h⟩⟩⟩)
  replace hg : c_X8_takeWord as gaSH σ some = some o := hg
  unfold c_X8_takeWord at hg
  split at hg
  · skip
    rename_i r0 a
    obtain ⟨hb, hg⟩ := gc_bif hg
    obtain rfl := Nat.eq_of_beq_eq_true hb
    obtain ⟨q, hq, hg⟩ := gc_bind hg
    obtain rfl := Option.some.inj hg
    exact gc_metG (maxL := 2) (lf := true) hl gc_pnX8 rfl gb_oX8 gc_rk_X8_takeWord gb_nX8 hM gc_ck_X8_takeWord (t_X8_takeWord a σ _ hq) gc_hoI rfl (fun v hv => by cases hv; exact Or.inr ⟨rfl, z_X8_takeWord a σ _ hq⟩) (Nat.le_of_ble_eq_true rfl) rfl
  · cases hg
theorem gc_rk_X8_readLessons : cl_X8_readLessons.all (gb_rk gb_flX8 gb_slX8 gb_nlX8 gb_llX8 gb_tlX8 cX8_readLessons) = true := by decide +kernel
theorem gc_ck_X8_readLessons : cl_X8_readLessons.all (gc_ck gb_lkX8 gb_lnX8 [14, 16, 18, 39] 6) = true := by decide +kernel
theorem gm_40 (hl : l.stackTraces = false) : gc_MM l D cA ad A adV 40 := by
  refine ⟨gb_T40, fun h => absurd h (by decide +kernel), fun as σ o hg => ?_⟩
  have hM : ∀ mid ∈ ([14, 16, 18, 39] : List Nat), gc_MM l D cA ad A adV mid := (List.forall_mem_cons.mpr ⟨gm_14 hl, List.forall_mem_cons.mpr ⟨gm_16 hl, List.forall_mem_cons.mpr ⟨gm_18 hl, List.forall_mem_cons.mpr ⟨gm_39 hl, fun _ h => nomatch h⟩⟩⟩⟩)
  replace hg : c_X8_readLessons as gaSH σ some = some o := hg
  unfold c_X8_readLessons at hg
  split at hg
  · skip
    rename_i r0
    obtain ⟨hb, hg⟩ := gc_bif hg
    obtain rfl := Nat.eq_of_beq_eq_true hb
    obtain ⟨q, hq, hg⟩ := gc_bind hg
    obtain rfl := Option.some.inj hg
    exact gc_metG (maxL := 2) (lf := true) hl gc_pnX8 rfl gb_oX8 gc_rk_X8_readLessons gb_nX8 hM gc_ck_X8_readLessons (t_X8_readLessons σ _ hq) gc_hoI rfl (fun v hv => by cases hv; exact Or.inr ⟨rfl, z_X8_readLessons σ _ hq⟩) (Nat.le_of_ble_eq_true rfl) rfl
  · cases hg
theorem gc_rk_X11_repairAll : cl_X11_repairAll.all (gb_rk gb_flX11 gb_slX11 gb_nlX11 gb_llX11 gb_tlX11 cX11_repairAll) = true := by decide +kernel
theorem gc_ck_X11_repairAll : cl_X11_repairAll.all (gc_ck gb_lkX11 gb_lnX11 [52, 55, 81] 6) = true := by decide +kernel
theorem gm_82 (hl : l.stackTraces = false) : gc_MM l D cA ad A adV 82 := by
  refine ⟨gb_T82, fun h => absurd h (by decide +kernel), fun as σ o hg => ?_⟩
  have hM : ∀ mid ∈ ([52, 55, 81] : List Nat), gc_MM l D cA ad A adV mid := (List.forall_mem_cons.mpr ⟨gm_52 hl, List.forall_mem_cons.mpr ⟨gm_55 hl, List.forall_mem_cons.mpr ⟨gm_81 hl, fun _ h => nomatch h⟩⟩⟩)
  replace hg : c_X11_repairAll as gaSH σ some = some o := hg
  unfold c_X11_repairAll at hg
  split at hg
  · skip
    rename_i r0
    obtain ⟨hb, hg⟩ := gc_bif hg
    obtain rfl := Nat.eq_of_beq_eq_true hb
    obtain ⟨q, hq, hg⟩ := gc_bind hg
    obtain rfl := Option.some.inj hg
    exact gc_metG (maxL := 2) (lf := true) hl gc_pnX11 rfl gb_oX11 gc_rk_X11_repairAll gb_nX11 hM gc_ck_X11_repairAll (t_X11_repairAll σ _ hq) gc_hoI rfl (fun v hv => by cases hv; exact Or.inl rfl) (Nat.le_of_ble_eq_true rfl) rfl
  · cases hg
theorem gc_rk_X11_setAbsent : cl_X11_setAbsent.all (gb_rk gb_flX11 gb_slX11 gb_nlX11 gb_llX11 gb_tlX11 cX11_setAbsent) = true := by decide +kernel
theorem gc_ck_X11_setAbsent : cl_X11_setAbsent.all (gc_ck gb_lkX11 gb_lnX11 [52, 54, 55, 402, 403] 6) = true := by decide +kernel
theorem gm_404 (hl : l.stackTraces = false) : gc_MM l D cA ad A adV 404 := by
  refine ⟨gb_T404, fun h => absurd h (by decide +kernel), fun as σ o hg => ?_⟩
  have hM : ∀ mid ∈ ([52, 54, 55, 402, 403] : List Nat), gc_MM l D cA ad A adV mid := (List.forall_mem_cons.mpr ⟨gm_52 hl, List.forall_mem_cons.mpr ⟨gm_54 hl, List.forall_mem_cons.mpr ⟨gm_55 hl, List.forall_mem_cons.mpr ⟨gm_402 hl, List.forall_mem_cons.mpr ⟨gm_403 hl, fun _ h => nomatch h⟩⟩⟩⟩⟩)
  replace hg : c_X11_setAbsent as gaSH σ some = some o := hg
  unfold c_X11_setAbsent at hg
  split at hg
  · skip
    rename_i r0 a b c
    obtain ⟨hb, hg⟩ := gc_bif hg
    obtain rfl := Nat.eq_of_beq_eq_true hb
    obtain ⟨q, hq, hg⟩ := gc_bind hg
    obtain ⟨q, s1⟩ := q
    cases q with
    | inl x =>
      obtain rfl := Option.some.inj hg
      exact gc_metG (maxL := 5) (lf := true) hl gc_pnX11 rfl gb_oX11 gc_rk_X11_setAbsent gb_nX11 hM gc_ck_X11_setAbsent (t_X11_setAbsent a b c σ _ hq) gc_hoIXl rfl (fun v hv => by cases hv; exact Or.inl rfl) (Nat.le_of_ble_eq_true rfl) rfl
    | inr E =>
      obtain rfl := Option.some.inj hg
      exact gc_metG (maxL := 5) (lf := true) hl gc_pnX11 rfl gb_oX11 gc_rk_X11_setAbsent gb_nX11 hM gc_ck_X11_setAbsent (t_X11_setAbsent a b c σ _ hq) gc_hoIXr rfl (fun v hv => by cases hv) (Nat.le_of_ble_eq_true rfl) rfl
  · cases hg
theorem gc_rk_X11_cover : cl_X11_cover.all (gb_rk gb_flX11 gb_slX11 gb_nlX11 gb_llX11 gb_tlX11 cX11_cover) = true := by decide +kernel
theorem gc_ck_X11_cover : cl_X11_cover.all (gc_ck gb_lkX11 gb_lnX11 [52, 60, 63, 402, 405, 406] 6) = true := by decide +kernel
theorem gm_407 (hl : l.stackTraces = false) : gc_MM l D cA ad A adV 407 := by
  refine ⟨gb_T407, fun h => absurd h (by decide +kernel), fun as σ o hg => ?_⟩
  have hM : ∀ mid ∈ ([52, 60, 63, 402, 405, 406] : List Nat), gc_MM l D cA ad A adV mid := (List.forall_mem_cons.mpr ⟨gm_52 hl, List.forall_mem_cons.mpr ⟨gm_60 hl, List.forall_mem_cons.mpr ⟨gm_63 hl, List.forall_mem_cons.mpr ⟨gm_402 hl, List.forall_mem_cons.mpr ⟨gm_405 hl, List.forall_mem_cons.mpr ⟨gm_406 hl, fun _ h => nomatch h⟩⟩⟩⟩⟩⟩)
  replace hg : c_X11_cover as gaSH σ some = some o := hg
  unfold c_X11_cover at hg
  split at hg
  · skip
    rename_i r0 a b
    obtain ⟨hb, hg⟩ := gc_bif hg
    obtain rfl := Nat.eq_of_beq_eq_true hb
    obtain ⟨q, hq, hg⟩ := gc_bind hg
    obtain ⟨q, s1⟩ := q
    cases q with
    | inl x =>
      obtain rfl := Option.some.inj hg
      exact gc_metG (maxL := 3) (lf := true) hl gc_pnX11 rfl gb_oX11 gc_rk_X11_cover gb_nX11 hM gc_ck_X11_cover (t_X11_cover a b σ _ hq) gc_hoIXl rfl (fun v hv => by cases hv; exact Or.inl rfl) (Nat.le_of_ble_eq_true rfl) rfl
    | inr E =>
      obtain rfl := Option.some.inj hg
      exact gc_metG (maxL := 3) (lf := true) hl gc_pnX11 rfl gb_oX11 gc_rk_X11_cover gb_nX11 hM gc_ck_X11_cover (t_X11_cover a b σ _ hq) gc_hoIXr rfl (fun v hv => by cases hv) (Nat.le_of_ble_eq_true rfl) rfl
  · cases hg
theorem gc_rk_X11_supervise : cl_X11_supervise.all (gb_rk gb_flX11 gb_slX11 gb_nlX11 gb_llX11 gb_tlX11 cX11_supervise) = true := by decide +kernel
theorem gc_ck_X11_supervise : cl_X11_supervise.all (gc_ck gb_lkX11 gb_lnX11 [52, 69, 70, 402, 405, 406] 6) = true := by decide +kernel
theorem gm_408 (hl : l.stackTraces = false) : gc_MM l D cA ad A adV 408 := by
  refine ⟨gb_T408, fun h => absurd h (by decide +kernel), fun as σ o hg => ?_⟩
  have hM : ∀ mid ∈ ([52, 69, 70, 402, 405, 406] : List Nat), gc_MM l D cA ad A adV mid := (List.forall_mem_cons.mpr ⟨gm_52 hl, List.forall_mem_cons.mpr ⟨gm_69 hl, List.forall_mem_cons.mpr ⟨gm_70 hl, List.forall_mem_cons.mpr ⟨gm_402 hl, List.forall_mem_cons.mpr ⟨gm_405 hl, List.forall_mem_cons.mpr ⟨gm_406 hl, fun _ h => nomatch h⟩⟩⟩⟩⟩⟩)
  replace hg : c_X11_supervise as gaSH σ some = some o := hg
  unfold c_X11_supervise at hg
  split at hg
  · skip
    rename_i r0 a b
    obtain ⟨hb, hg⟩ := gc_bif hg
    obtain rfl := Nat.eq_of_beq_eq_true hb
    obtain ⟨q, hq, hg⟩ := gc_bind hg
    obtain ⟨q, s1⟩ := q
    cases q with
    | inl x =>
      obtain rfl := Option.some.inj hg
      exact gc_metG (maxL := 3) (lf := true) hl gc_pnX11 rfl gb_oX11 gc_rk_X11_supervise gb_nX11 hM gc_ck_X11_supervise (t_X11_supervise a b σ _ hq) gc_hoIXl rfl (fun v hv => by cases hv; exact Or.inl rfl) (Nat.le_of_ble_eq_true rfl) rfl
    | inr E =>
      obtain rfl := Option.some.inj hg
      exact gc_metG (maxL := 3) (lf := true) hl gc_pnX11 rfl gb_oX11 gc_rk_X11_supervise gb_nX11 hM gc_ck_X11_supervise (t_X11_supervise a b σ _ hq) gc_hoIXr rfl (fun v hv => by cases hv) (Nat.le_of_ble_eq_true rfl) rfl
  · cases hg
theorem gc_rk_X11_repair : cl_X11_repair.all (gb_rk gb_flX11 gb_slX11 gb_nlX11 gb_llX11 gb_tlX11 cX11_repair) = true := by decide +kernel
theorem gc_ck_X11_repair : cl_X11_repair.all (gc_ck gb_lkX11 gb_lnX11 [52, 80, 405, 406] 6) = true := by decide +kernel
theorem gm_409 (hl : l.stackTraces = false) : gc_MM l D cA ad A adV 409 := by
  refine ⟨gb_T409, fun h => absurd h (by decide +kernel), fun as σ o hg => ?_⟩
  have hM : ∀ mid ∈ ([52, 80, 405, 406] : List Nat), gc_MM l D cA ad A adV mid := (List.forall_mem_cons.mpr ⟨gm_52 hl, List.forall_mem_cons.mpr ⟨gm_80 hl, List.forall_mem_cons.mpr ⟨gm_405 hl, List.forall_mem_cons.mpr ⟨gm_406 hl, fun _ h => nomatch h⟩⟩⟩⟩)
  replace hg : c_X11_repair as gaSH σ some = some o := hg
  unfold c_X11_repair at hg
  split at hg
  · skip
    rename_i r0 a
    obtain ⟨hb, hg⟩ := gc_bif hg
    obtain rfl := Nat.eq_of_beq_eq_true hb
    obtain ⟨q, hq, hg⟩ := gc_bind hg
    obtain ⟨q, s1⟩ := q
    cases q with
    | inl x =>
      obtain rfl := Option.some.inj hg
      exact gc_metG (maxL := 2) (lf := true) hl gc_pnX11 rfl gb_oX11 gc_rk_X11_repair gb_nX11 hM gc_ck_X11_repair (t_X11_repair a σ _ hq) gc_hoIXl rfl (fun v hv => by cases hv; exact Or.inl rfl) (Nat.le_of_ble_eq_true rfl) rfl
    | inr E =>
      obtain rfl := Option.some.inj hg
      exact gc_metG (maxL := 2) (lf := true) hl gc_pnX11 rfl gb_oX11 gc_rk_X11_repair gb_nX11 hM gc_ck_X11_repair (t_X11_repair a σ _ hq) gc_hoIXr rfl (fun v hv => by cases hv) (Nat.le_of_ble_eq_true rfl) rfl
  · cases hg
theorem gc_rk_X11_exchange : cl_X11_exchange.all (gb_rk gb_flX11 gb_slX11 gb_nlX11 gb_llX11 gb_tlX11 cX11_exchange) = true := by decide +kernel
theorem gc_ck_X11_exchange : cl_X11_exchange.all (gc_ck gb_lkX11 gb_lnX11 [1, 52, 86, 405, 406] 6) = true := by decide +kernel
theorem gm_410 (hl : l.stackTraces = false) : gc_MM l D cA ad A adV 410 := by
  refine ⟨gb_T410, fun h => absurd h (by decide +kernel), fun as σ o hg => ?_⟩
  have hM : ∀ mid ∈ ([1, 52, 86, 405, 406] : List Nat), gc_MM l D cA ad A adV mid := (List.forall_mem_cons.mpr ⟨gm_1 hl, List.forall_mem_cons.mpr ⟨gm_52 hl, List.forall_mem_cons.mpr ⟨gm_86 hl, List.forall_mem_cons.mpr ⟨gm_405 hl, List.forall_mem_cons.mpr ⟨gm_406 hl, fun _ h => nomatch h⟩⟩⟩⟩⟩)
  replace hg : c_X11_exchange as gaSH σ some = some o := hg
  unfold c_X11_exchange at hg
  split at hg
  · skip
    rename_i r0 a b
    obtain ⟨hb, hg⟩ := gc_bif hg
    obtain rfl := Nat.eq_of_beq_eq_true hb
    obtain ⟨q, hq, hg⟩ := gc_bind hg
    obtain ⟨q, s1⟩ := q
    cases q with
    | inl x =>
      obtain rfl := Option.some.inj hg
      exact gc_metG (maxL := 3) (lf := true) hl gc_pnX11 rfl gb_oX11 gc_rk_X11_exchange gb_nX11 hM gc_ck_X11_exchange (t_X11_exchange a b σ _ hq) gc_hoIXl rfl (fun v hv => by cases hv; exact Or.inl rfl) (Nat.le_of_ble_eq_true rfl) rfl
    | inr E =>
      obtain rfl := Option.some.inj hg
      exact gc_metG (maxL := 3) (lf := true) hl gc_pnX11 rfl gb_oX11 gc_rk_X11_exchange gb_nX11 hM gc_ck_X11_exchange (t_X11_exchange a b σ _ hq) gc_hoIXr rfl (fun v hv => by cases hv) (Nat.le_of_ble_eq_true rfl) rfl
  · cases hg
theorem gc_rk_X11_move : cl_X11_move.all (gb_rk gb_flX11 gb_slX11 gb_nlX11 gb_llX11 gb_tlX11 cX11_move) = true := by decide +kernel
theorem gc_ck_X11_move : cl_X11_move.all (gc_ck gb_lkX11 gb_lnX11 [1, 52, 89, 405, 406, 411] 6) = true := by decide +kernel
theorem gm_412 (hl : l.stackTraces = false) : gc_MM l D cA ad A adV 412 := by
  refine ⟨gb_T412, fun h => absurd h (by decide +kernel), fun as σ o hg => ?_⟩
  have hM : ∀ mid ∈ ([1, 52, 89, 405, 406, 411] : List Nat), gc_MM l D cA ad A adV mid := (List.forall_mem_cons.mpr ⟨gm_1 hl, List.forall_mem_cons.mpr ⟨gm_52 hl, List.forall_mem_cons.mpr ⟨gm_89 hl, List.forall_mem_cons.mpr ⟨gm_405 hl, List.forall_mem_cons.mpr ⟨gm_406 hl, List.forall_mem_cons.mpr ⟨gm_411 hl, fun _ h => nomatch h⟩⟩⟩⟩⟩⟩)
  replace hg : c_X11_move as gaSH σ some = some o := hg
  unfold c_X11_move at hg
  split at hg
  · skip
    rename_i r0 a b
    obtain ⟨hb, hg⟩ := gc_bif hg
    obtain rfl := Nat.eq_of_beq_eq_true hb
    obtain ⟨q, hq, hg⟩ := gc_bind hg
    obtain ⟨q, s1⟩ := q
    cases q with
    | inl x =>
      obtain rfl := Option.some.inj hg
      exact gc_metG (maxL := 4) (lf := true) hl gc_pnX11 rfl gb_oX11 gc_rk_X11_move gb_nX11 hM gc_ck_X11_move (t_X11_move a b σ _ hq) gc_hoIXl rfl (fun v hv => by cases hv; exact Or.inl rfl) (Nat.le_of_ble_eq_true rfl) rfl
    | inr E =>
      obtain rfl := Option.some.inj hg
      exact gc_metG (maxL := 4) (lf := true) hl gc_pnX11 rfl gb_oX11 gc_rk_X11_move gb_nX11 hM gc_ck_X11_move (t_X11_move a b σ _ hq) gc_hoIXr rfl (fun v hv => by cases hv) (Nat.le_of_ble_eq_true rfl) rfl
  · cases hg
theorem gc_rk_X11_setRoom : cl_X11_setRoom.all (gb_rk gb_flX11 gb_slX11 gb_nlX11 gb_llX11 gb_tlX11 cX11_setRoom) = true := by decide +kernel
theorem gc_ck_X11_setRoom : cl_X11_setRoom.all (gc_ck gb_lkX11 gb_lnX11 [1, 52, 92, 405, 406, 413] 6) = true := by decide +kernel
theorem gm_414 (hl : l.stackTraces = false) : gc_MM l D cA ad A adV 414 := by
  refine ⟨gb_T414, fun h => absurd h (by decide +kernel), fun as σ o hg => ?_⟩
  have hM : ∀ mid ∈ ([1, 52, 92, 405, 406, 413] : List Nat), gc_MM l D cA ad A adV mid := (List.forall_mem_cons.mpr ⟨gm_1 hl, List.forall_mem_cons.mpr ⟨gm_52 hl, List.forall_mem_cons.mpr ⟨gm_92 hl, List.forall_mem_cons.mpr ⟨gm_405 hl, List.forall_mem_cons.mpr ⟨gm_406 hl, List.forall_mem_cons.mpr ⟨gm_413 hl, fun _ h => nomatch h⟩⟩⟩⟩⟩⟩)
  replace hg : c_X11_setRoom as gaSH σ some = some o := hg
  unfold c_X11_setRoom at hg
  split at hg
  · skip
    rename_i r0 a b
    obtain ⟨hb, hg⟩ := gc_bif hg
    obtain rfl := Nat.eq_of_beq_eq_true hb
    obtain ⟨q, hq, hg⟩ := gc_bind hg
    obtain ⟨q, s1⟩ := q
    cases q with
    | inl x =>
      obtain rfl := Option.some.inj hg
      exact gc_metG (maxL := 4) (lf := true) hl gc_pnX11 rfl gb_oX11 gc_rk_X11_setRoom gb_nX11 hM gc_ck_X11_setRoom (t_X11_setRoom a b σ _ hq) gc_hoIXl rfl (fun v hv => by cases hv; exact Or.inl rfl) (Nat.le_of_ble_eq_true rfl) rfl
    | inr E =>
      obtain rfl := Option.some.inj hg
      exact gc_metG (maxL := 4) (lf := true) hl gc_pnX11 rfl gb_oX11 gc_rk_X11_setRoom gb_nX11 hM gc_ck_X11_setRoom (t_X11_setRoom a b σ _ hq) gc_hoIXr rfl (fun v hv => by cases hv) (Nat.le_of_ble_eq_true rfl) rfl
  · cases hg
theorem gc_rk_X11_reopen : cl_X11_reopen.all (gb_rk gb_flX11 gb_slX11 gb_nlX11 gb_llX11 gb_tlX11 cX11_reopen) = true := by decide +kernel
theorem gc_ck_X11_reopen : cl_X11_reopen.all (gc_ck gb_lkX11 gb_lnX11 [1, 52, 93, 405, 406] 6) = true := by decide +kernel
theorem gm_415 (hl : l.stackTraces = false) : gc_MM l D cA ad A adV 415 := by
  refine ⟨gb_T415, fun h => absurd h (by decide +kernel), fun as σ o hg => ?_⟩
  have hM : ∀ mid ∈ ([1, 52, 93, 405, 406] : List Nat), gc_MM l D cA ad A adV mid := (List.forall_mem_cons.mpr ⟨gm_1 hl, List.forall_mem_cons.mpr ⟨gm_52 hl, List.forall_mem_cons.mpr ⟨gm_93 hl, List.forall_mem_cons.mpr ⟨gm_405 hl, List.forall_mem_cons.mpr ⟨gm_406 hl, fun _ h => nomatch h⟩⟩⟩⟩⟩)
  replace hg : c_X11_reopen as gaSH σ some = some o := hg
  unfold c_X11_reopen at hg
  split at hg
  · skip
    rename_i r0 a
    obtain ⟨hb, hg⟩ := gc_bif hg
    obtain rfl := Nat.eq_of_beq_eq_true hb
    obtain ⟨q, hq, hg⟩ := gc_bind hg
    obtain ⟨q, s1⟩ := q
    cases q with
    | inl x =>
      obtain rfl := Option.some.inj hg
      exact gc_metG (maxL := 3) (lf := true) hl gc_pnX11 rfl gb_oX11 gc_rk_X11_reopen gb_nX11 hM gc_ck_X11_reopen (t_X11_reopen a σ _ hq) gc_hoIXl rfl (fun v hv => by cases hv; exact Or.inl rfl) (Nat.le_of_ble_eq_true rfl) rfl
    | inr E =>
      obtain rfl := Option.some.inj hg
      exact gc_metG (maxL := 3) (lf := true) hl gc_pnX11 rfl gb_oX11 gc_rk_X11_reopen gb_nX11 hM gc_ck_X11_reopen (t_X11_reopen a σ _ hq) gc_hoIXr rfl (fun v hv => by cases hv) (Nat.le_of_ble_eq_true rfl) rfl
  · cases hg
theorem gc_rk_X11_whyNotCover : cl_X11_whyNotCover.all (gb_rk gb_flX11 gb_slX11 gb_nlX11 gb_llX11 gb_tlX11 cX11_whyNotCover) = true := by decide +kernel
theorem gc_ck_X11_whyNotCover : cl_X11_whyNotCover.all (gc_ck gb_lkX11 gb_lnX11 [61, 402, 405] 6) = true := by decide +kernel
theorem gm_416 (hl : l.stackTraces = false) : gc_MM l D cA ad A adV 416 := by
  refine ⟨gb_T416, fun h => absurd h (by decide +kernel), fun as σ o hg => ?_⟩
  have hM : ∀ mid ∈ ([61, 402, 405] : List Nat), gc_MM l D cA ad A adV mid := (List.forall_mem_cons.mpr ⟨gm_61 hl, List.forall_mem_cons.mpr ⟨gm_402 hl, List.forall_mem_cons.mpr ⟨gm_405 hl, fun _ h => nomatch h⟩⟩⟩)
  replace hg : c_X11_whyNotCover as gaSH σ some = some o := hg
  unfold c_X11_whyNotCover at hg
  split at hg
  · skip
    rename_i r0 a b
    obtain ⟨hb, hg⟩ := gc_bif hg
    obtain rfl := Nat.eq_of_beq_eq_true hb
    obtain ⟨q, hq, hg⟩ := gc_bind hg
    cases q with
    | inl x =>
      obtain rfl := Option.some.inj hg
      exact gc_metP (maxL := 3) (lf := true) hl gc_pnX11 rfl gb_oX11 gc_rk_X11_whyNotCover gb_nX11 hM gc_ck_X11_whyNotCover (t_X11_whyNotCover a b σ _ hq) gd_hoIXl rfl (fun v hv => by cases hv; exact Or.inl rfl) (Nat.le_of_ble_eq_true rfl) rfl
    | inr E =>
      obtain rfl := Option.some.inj hg
      exact gc_metP (maxL := 3) (lf := true) hl gc_pnX11 rfl gb_oX11 gc_rk_X11_whyNotCover gb_nX11 hM gc_ck_X11_whyNotCover (t_X11_whyNotCover a b σ _ hq) gd_hoIXr rfl (fun v hv => by cases hv) (Nat.le_of_ble_eq_true rfl) rfl
  · cases hg
theorem gc_rk_X11_whyNotSupervise : cl_X11_whyNotSupervise.all (gb_rk gb_flX11 gb_slX11 gb_nlX11 gb_llX11 gb_tlX11 cX11_whyNotSupervise) = true := by decide +kernel
theorem gc_ck_X11_whyNotSupervise : cl_X11_whyNotSupervise.all (gc_ck gb_lkX11 gb_lnX11 [67, 402, 405] 6) = true := by decide +kernel
theorem gm_417 (hl : l.stackTraces = false) : gc_MM l D cA ad A adV 417 := by
  refine ⟨gb_T417, fun h => absurd h (by decide +kernel), fun as σ o hg => ?_⟩
  have hM : ∀ mid ∈ ([67, 402, 405] : List Nat), gc_MM l D cA ad A adV mid := (List.forall_mem_cons.mpr ⟨gm_67 hl, List.forall_mem_cons.mpr ⟨gm_402 hl, List.forall_mem_cons.mpr ⟨gm_405 hl, fun _ h => nomatch h⟩⟩⟩)
  replace hg : c_X11_whyNotSupervise as gaSH σ some = some o := hg
  unfold c_X11_whyNotSupervise at hg
  split at hg
  · skip
    rename_i r0 a b
    obtain ⟨hb, hg⟩ := gc_bif hg
    obtain rfl := Nat.eq_of_beq_eq_true hb
    obtain ⟨q, hq, hg⟩ := gc_bind hg
    cases q with
    | inl x =>
      obtain rfl := Option.some.inj hg
      exact gc_metP (maxL := 3) (lf := true) hl gc_pnX11 rfl gb_oX11 gc_rk_X11_whyNotSupervise gb_nX11 hM gc_ck_X11_whyNotSupervise (t_X11_whyNotSupervise a b σ _ hq) gd_hoIXl rfl (fun v hv => by cases hv; exact Or.inl rfl) (Nat.le_of_ble_eq_true rfl) rfl
    | inr E =>
      obtain rfl := Option.some.inj hg
      exact gc_metP (maxL := 3) (lf := true) hl gc_pnX11 rfl gb_oX11 gc_rk_X11_whyNotSupervise gb_nX11 hM gc_ck_X11_whyNotSupervise (t_X11_whyNotSupervise a b σ _ hq) gd_hoIXr rfl (fun v hv => by cases hv) (Nat.le_of_ble_eq_true rfl) rfl
  · cases hg
theorem gc_rk_X11_whyNotExchange : cl_X11_whyNotExchange.all (gb_rk gb_flX11 gb_slX11 gb_nlX11 gb_llX11 gb_tlX11 cX11_whyNotExchange) = true := by decide +kernel
theorem gc_ck_X11_whyNotExchange : cl_X11_whyNotExchange.all (gc_ck gb_lkX11 gb_lnX11 [85, 405] 6) = true := by decide +kernel
theorem gm_418 (hl : l.stackTraces = false) : gc_MM l D cA ad A adV 418 := by
  refine ⟨gb_T418, fun h => absurd h (by decide +kernel), fun as σ o hg => ?_⟩
  have hM : ∀ mid ∈ ([85, 405] : List Nat), gc_MM l D cA ad A adV mid := (List.forall_mem_cons.mpr ⟨gm_85 hl, List.forall_mem_cons.mpr ⟨gm_405 hl, fun _ h => nomatch h⟩⟩)
  replace hg : c_X11_whyNotExchange as gaSH σ some = some o := hg
  unfold c_X11_whyNotExchange at hg
  split at hg
  · skip
    rename_i r0 a b
    obtain ⟨hb, hg⟩ := gc_bif hg
    obtain rfl := Nat.eq_of_beq_eq_true hb
    obtain ⟨q, hq, hg⟩ := gc_bind hg
    cases q with
    | inl x =>
      obtain rfl := Option.some.inj hg
      exact gc_metP (maxL := 3) (lf := true) hl gc_pnX11 rfl gb_oX11 gc_rk_X11_whyNotExchange gb_nX11 hM gc_ck_X11_whyNotExchange (t_X11_whyNotExchange a b σ _ hq) gd_hoIXl rfl (fun v hv => by cases hv; exact Or.inl rfl) (Nat.le_of_ble_eq_true rfl) rfl
    | inr E =>
      obtain rfl := Option.some.inj hg
      exact gc_metP (maxL := 3) (lf := true) hl gc_pnX11 rfl gb_oX11 gc_rk_X11_whyNotExchange gb_nX11 hM gc_ck_X11_whyNotExchange (t_X11_whyNotExchange a b σ _ hq) gd_hoIXr rfl (fun v hv => by cases hv) (Nat.le_of_ble_eq_true rfl) rfl
  · cases hg
theorem gc_rk_X11_whyNotRoom : cl_X11_whyNotRoom.all (gb_rk gb_flX11 gb_slX11 gb_nlX11 gb_llX11 gb_tlX11 cX11_whyNotRoom) = true := by decide +kernel
theorem gc_ck_X11_whyNotRoom : cl_X11_whyNotRoom.all (gc_ck gb_lkX11 gb_lnX11 [91, 405, 413] 6) = true := by decide +kernel
theorem gm_419 (hl : l.stackTraces = false) : gc_MM l D cA ad A adV 419 := by
  refine ⟨gb_T419, fun h => absurd h (by decide +kernel), fun as σ o hg => ?_⟩
  have hM : ∀ mid ∈ ([91, 405, 413] : List Nat), gc_MM l D cA ad A adV mid := (List.forall_mem_cons.mpr ⟨gm_91 hl, List.forall_mem_cons.mpr ⟨gm_405 hl, List.forall_mem_cons.mpr ⟨gm_413 hl, fun _ h => nomatch h⟩⟩⟩)
  replace hg : c_X11_whyNotRoom as gaSH σ some = some o := hg
  unfold c_X11_whyNotRoom at hg
  split at hg
  · skip
    rename_i r0 a b
    obtain ⟨hb, hg⟩ := gc_bif hg
    obtain rfl := Nat.eq_of_beq_eq_true hb
    obtain ⟨q, hq, hg⟩ := gc_bind hg
    cases q with
    | inl x =>
      obtain rfl := Option.some.inj hg
      exact gc_metP (maxL := 3) (lf := true) hl gc_pnX11 rfl gb_oX11 gc_rk_X11_whyNotRoom gb_nX11 hM gc_ck_X11_whyNotRoom (t_X11_whyNotRoom a b σ _ hq) gd_hoIXl rfl (fun v hv => by cases hv; exact Or.inl rfl) (Nat.le_of_ble_eq_true rfl) rfl
    | inr E =>
      obtain rfl := Option.some.inj hg
      exact gc_metP (maxL := 3) (lf := true) hl gc_pnX11 rfl gb_oX11 gc_rk_X11_whyNotRoom gb_nX11 hM gc_ck_X11_whyNotRoom (t_X11_whyNotRoom a b σ _ hq) gd_hoIXr rfl (fun v hv => by cases hv) (Nat.le_of_ble_eq_true rfl) rfl
  · cases hg
theorem gc_rk_X11_candidates : cl_X11_candidates.all (gb_rk gb_flX11 gb_slX11 gb_nlX11 gb_llX11 gb_tlX11 cX11_candidates) = true := by decide +kernel
theorem gc_ck_X11_candidates : cl_X11_candidates.all (gc_ck gb_lkX11 gb_lnX11 [61, 405] 6) = true := by decide +kernel
theorem gm_420 (hl : l.stackTraces = false) : gc_MM l D cA ad A adV 420 := by
  refine ⟨gb_T420, fun h => absurd h (by decide +kernel), fun as σ o hg => ?_⟩
  have hM : ∀ mid ∈ ([61, 405] : List Nat), gc_MM l D cA ad A adV mid := (List.forall_mem_cons.mpr ⟨gm_61 hl, List.forall_mem_cons.mpr ⟨gm_405 hl, fun _ h => nomatch h⟩⟩)
  replace hg : c_X11_candidates as gaSH σ some = some o := hg
  unfold c_X11_candidates at hg
  split at hg
  · skip
    rename_i r0 a
    obtain ⟨hb, hg⟩ := gc_bif hg
    obtain rfl := Nat.eq_of_beq_eq_true hb
    obtain ⟨q, hq, hg⟩ := gc_bind hg
    cases q with
    | inl x =>
      obtain rfl := Option.some.inj hg
      exact gc_metP (maxL := 4) (lf := true) hl gc_pnX11 rfl gb_oX11 gc_rk_X11_candidates gb_nX11 hM gc_ck_X11_candidates (t_X11_candidates a σ _ hq) gd_hoIXl rfl (fun v hv => by cases hv; exact Or.inl rfl) (Nat.le_of_ble_eq_true rfl) rfl
    | inr E =>
      obtain rfl := Option.some.inj hg
      exact gc_metP (maxL := 4) (lf := true) hl gc_pnX11 rfl gb_oX11 gc_rk_X11_candidates gb_nX11 hM gc_ck_X11_candidates (t_X11_candidates a σ _ hq) gd_hoIXr rfl (fun v hv => by cases hv) (Nat.le_of_ble_eq_true rfl) rfl
  · cases hg
theorem gc_rk_X11_chain : cl_X11_chain.all (gb_rk gb_flX11 gb_slX11 gb_nlX11 gb_llX11 gb_tlX11 cX11_chain) = true := by decide +kernel
theorem gc_ck_X11_chain : cl_X11_chain.all (gc_ck gb_lkX11 gb_lnX11 [79, 405] 6) = true := by decide +kernel
theorem gm_421 (hl : l.stackTraces = false) : gc_MM l D cA ad A adV 421 := by
  refine ⟨gb_T421, fun h => absurd h (by decide +kernel), fun as σ o hg => ?_⟩
  have hM : ∀ mid ∈ ([79, 405] : List Nat), gc_MM l D cA ad A adV mid := (List.forall_mem_cons.mpr ⟨gm_79 hl, List.forall_mem_cons.mpr ⟨gm_405 hl, fun _ h => nomatch h⟩⟩)
  replace hg : c_X11_chain as gaSH σ some = some o := hg
  unfold c_X11_chain at hg
  split at hg
  · skip
    rename_i r0 a
    obtain ⟨hb, hg⟩ := gc_bif hg
    obtain rfl := Nat.eq_of_beq_eq_true hb
    obtain ⟨q, hq, hg⟩ := gc_bind hg
    obtain ⟨q, s1⟩ := q
    cases q with
    | inl x =>
      obtain rfl := Option.some.inj hg
      exact gc_metG (maxL := 2) (lf := true) hl gc_pnX11 rfl gb_oX11 gc_rk_X11_chain gb_nX11 hM gc_ck_X11_chain (t_X11_chain a σ _ hq) gc_hoIXl rfl (fun v hv => by cases hv; exact Or.inl rfl) (Nat.le_of_ble_eq_true rfl) rfl
    | inr E =>
      obtain rfl := Option.some.inj hg
      exact gc_metG (maxL := 2) (lf := true) hl gc_pnX11 rfl gb_oX11 gc_rk_X11_chain gb_nX11 hM gc_ck_X11_chain (t_X11_chain a σ _ hq) gc_hoIXr rfl (fun v hv => by cases hv) (Nat.le_of_ble_eq_true rfl) rfl
  · cases hg
theorem gc_rk_X11_chainTeacher : cl_X11_chainTeacher.all (gb_rk gb_flX11 gb_slX11 gb_nlX11 gb_llX11 gb_tlX11 cX11_chainTeacher) = true := by decide +kernel
theorem gc_ck_X11_chainTeacher : cl_X11_chainTeacher.all (gc_ck gb_lkX11 gb_lnX11 [1, 79, 405] 6) = true := by decide +kernel
theorem gm_422 (hl : l.stackTraces = false) : gc_MM l D cA ad A adV 422 := by
  refine ⟨gb_T422, fun h => absurd h (by decide +kernel), fun as σ o hg => ?_⟩
  have hM : ∀ mid ∈ ([1, 79, 405] : List Nat), gc_MM l D cA ad A adV mid := (List.forall_mem_cons.mpr ⟨gm_1 hl, List.forall_mem_cons.mpr ⟨gm_79 hl, List.forall_mem_cons.mpr ⟨gm_405 hl, fun _ h => nomatch h⟩⟩⟩)
  replace hg : c_X11_chainTeacher as gaSH σ some = some o := hg
  unfold c_X11_chainTeacher at hg
  split at hg
  · skip
    rename_i r0 a b
    obtain ⟨hb, hg⟩ := gc_bif hg
    obtain rfl := Nat.eq_of_beq_eq_true hb
    obtain ⟨q, hq, hg⟩ := gc_bind hg
    obtain ⟨q, s1⟩ := q
    cases q with
    | inl x =>
      obtain rfl := Option.some.inj hg
      exact gc_metG (maxL := 4) (lf := true) hl gc_pnX11 rfl gb_oX11 gc_rk_X11_chainTeacher gb_nX11 hM gc_ck_X11_chainTeacher (t_X11_chainTeacher a b σ _ hq) gc_hoIXl rfl (fun v hv => by cases hv; exact Or.inl rfl) (Nat.le_of_ble_eq_true rfl) rfl
    | inr E =>
      obtain rfl := Option.some.inj hg
      exact gc_metG (maxL := 4) (lf := true) hl gc_pnX11 rfl gb_oX11 gc_rk_X11_chainTeacher gb_nX11 hM gc_ck_X11_chainTeacher (t_X11_chainTeacher a b σ _ hq) gc_hoIXr rfl (fun v hv => by cases hv) (Nat.le_of_ble_eq_true rfl) rfl
  · cases hg
theorem gc_rk_X11_slotsFor : cl_X11_slotsFor.all (gb_rk gb_flX11 gb_slX11 gb_nlX11 gb_llX11 gb_tlX11 cX11_slotsFor) = true := by decide +kernel
theorem gc_ck_X11_slotsFor : cl_X11_slotsFor.all (gc_ck gb_lkX11 gb_lnX11 [33, 88, 405] 6) = true := by decide +kernel
theorem gm_423 (hl : l.stackTraces = false) : gc_MM l D cA ad A adV 423 := by
  refine ⟨gb_T423, fun h => absurd h (by decide +kernel), fun as σ o hg => ?_⟩
  have hM : ∀ mid ∈ ([33, 88, 405] : List Nat), gc_MM l D cA ad A adV mid := (List.forall_mem_cons.mpr ⟨gm_33 hl, List.forall_mem_cons.mpr ⟨gm_88 hl, List.forall_mem_cons.mpr ⟨gm_405 hl, fun _ h => nomatch h⟩⟩⟩)
  replace hg : c_X11_slotsFor as gaSH σ some = some o := hg
  unfold c_X11_slotsFor at hg
  split at hg
  · skip
    rename_i r0 a
    obtain ⟨hb, hg⟩ := gc_bif hg
    obtain rfl := Nat.eq_of_beq_eq_true hb
    obtain ⟨q, hq, hg⟩ := gc_bind hg
    cases q with
    | inl x =>
      obtain rfl := Option.some.inj hg
      exact gc_metP (maxL := 4) (lf := true) hl gc_pnX11 rfl gb_oX11 gc_rk_X11_slotsFor gb_nX11 hM gc_ck_X11_slotsFor (t_X11_slotsFor a σ _ hq) gd_hoIXl rfl (fun v hv => by cases hv; exact Or.inl rfl) (Nat.le_of_ble_eq_true rfl) rfl
    | inr E =>
      obtain rfl := Option.some.inj hg
      exact gc_metP (maxL := 4) (lf := true) hl gc_pnX11 rfl gb_oX11 gc_rk_X11_slotsFor gb_nX11 hM gc_ck_X11_slotsFor (t_X11_slotsFor a σ _ hq) gd_hoIXr rfl (fun v hv => by cases hv) (Nat.le_of_ble_eq_true rfl) rfl
  · cases hg
theorem gc_rk_X11_lesson : cl_X11_lesson.all (gb_rk gb_flX11 gb_slX11 gb_nlX11 gb_llX11 gb_tlX11 cX11_lesson) = true := by decide +kernel
theorem gc_ck_X11_lesson : cl_X11_lesson.all (gc_ck gb_lkX11 gb_lnX11 [1, 65, 94, 405] 6) = true := by decide +kernel
theorem gm_425 (hl : l.stackTraces = false) : gc_MM l D cA ad A adV 425 := by
  refine ⟨gb_T425, fun h => absurd h (by decide +kernel), fun as σ o hg => ?_⟩
  have hM : ∀ mid ∈ ([1, 65, 94, 405] : List Nat), gc_MM l D cA ad A adV mid := (List.forall_mem_cons.mpr ⟨gm_1 hl, List.forall_mem_cons.mpr ⟨gm_65 hl, List.forall_mem_cons.mpr ⟨gm_94 hl, List.forall_mem_cons.mpr ⟨gm_405 hl, fun _ h => nomatch h⟩⟩⟩⟩)
  replace hg : c_X11_lesson as gaSH σ some = some o := hg
  unfold c_X11_lesson at hg
  split at hg
  · skip
    rename_i r0 a b
    obtain ⟨hb, hg⟩ := gc_bif hg
    obtain rfl := Nat.eq_of_beq_eq_true hb
    obtain ⟨q, hq, hg⟩ := gc_bind hg
    cases q with
    | inl x =>
      obtain rfl := Option.some.inj hg
      exact gc_metP (maxL := 3) (lf := true) hl gc_pnX11 rfl gb_oX11 gc_rk_X11_lesson gb_nX11 hM gc_ck_X11_lesson (t_X11_lesson a b σ _ hq) gd_hoIXl rfl (fun v hv => by cases hv; exact Or.inl rfl) (Nat.le_of_ble_eq_true rfl) rfl
    | inr E =>
      obtain rfl := Option.some.inj hg
      exact gc_metP (maxL := 3) (lf := true) hl gc_pnX11 rfl gb_oX11 gc_rk_X11_lesson gb_nX11 hM gc_ck_X11_lesson (t_X11_lesson a b σ _ hq) gd_hoIXr rfl (fun v hv => by cases hv) (Nat.le_of_ble_eq_true rfl) rfl
  · cases hg
theorem gc_rk_X11_teacher : cl_X11_teacher.all (gb_rk gb_flX11 gb_slX11 gb_nlX11 gb_llX11 gb_tlX11 cX11_teacher) = true := by decide +kernel
theorem gc_ck_X11_teacher : cl_X11_teacher.all (gc_ck gb_lkX11 gb_lnX11 [1, 60, 70, 97, 100, 402] 6) = true := by decide +kernel
theorem gm_426 (hl : l.stackTraces = false) : gc_MM l D cA ad A adV 426 := by
  refine ⟨gb_T426, fun h => absurd h (by decide +kernel), fun as σ o hg => ?_⟩
  have hM : ∀ mid ∈ ([1, 60, 70, 97, 100, 402] : List Nat), gc_MM l D cA ad A adV mid := (List.forall_mem_cons.mpr ⟨gm_1 hl, List.forall_mem_cons.mpr ⟨gm_60 hl, List.forall_mem_cons.mpr ⟨gm_70 hl, List.forall_mem_cons.mpr ⟨gm_97 hl, List.forall_mem_cons.mpr ⟨gm_100 hl, List.forall_mem_cons.mpr ⟨gm_402 hl, fun _ h => nomatch h⟩⟩⟩⟩⟩⟩)
  replace hg : c_X11_teacher as gaSH σ some = some o := hg
  unfold c_X11_teacher at hg
  split at hg
  · skip
    rename_i r0 a b
    obtain ⟨hb, hg⟩ := gc_bif hg
    obtain rfl := Nat.eq_of_beq_eq_true hb
    obtain ⟨q, hq, hg⟩ := gc_bind hg
    cases q with
    | inl x =>
      obtain rfl := Option.some.inj hg
      exact gc_metP (maxL := 3) (lf := true) hl gc_pnX11 rfl gb_oX11 gc_rk_X11_teacher gb_nX11 hM gc_ck_X11_teacher (t_X11_teacher a b σ _ hq) gd_hoIXl rfl (fun v hv => by cases hv; exact Or.inl rfl) (Nat.le_of_ble_eq_true rfl) rfl
    | inr E =>
      obtain rfl := Option.some.inj hg
      exact gc_metP (maxL := 3) (lf := true) hl gc_pnX11 rfl gb_oX11 gc_rk_X11_teacher gb_nX11 hM gc_ck_X11_teacher (t_X11_teacher a b σ _ hq) gd_hoIXr rfl (fun v hv => by cases hv) (Nat.le_of_ble_eq_true rfl) rfl
  · cases hg
theorem gc_rk_X11_room : cl_X11_room.all (gb_rk gb_flX11 gb_slX11 gb_nlX11 gb_llX11 gb_tlX11 cX11_room) = true := by decide +kernel
theorem gc_ck_X11_room : cl_X11_room.all (gc_ck gb_lkX11 gb_lnX11 [1, 97, 413] 6) = true := by decide +kernel
theorem gm_427 (hl : l.stackTraces = false) : gc_MM l D cA ad A adV 427 := by
  refine ⟨gb_T427, fun h => absurd h (by decide +kernel), fun as σ o hg => ?_⟩
  have hM : ∀ mid ∈ ([1, 97, 413] : List Nat), gc_MM l D cA ad A adV mid := (List.forall_mem_cons.mpr ⟨gm_1 hl, List.forall_mem_cons.mpr ⟨gm_97 hl, List.forall_mem_cons.mpr ⟨gm_413 hl, fun _ h => nomatch h⟩⟩⟩)
  replace hg : c_X11_room as gaSH σ some = some o := hg
  unfold c_X11_room at hg
  split at hg
  · skip
    rename_i r0 a b
    obtain ⟨hb, hg⟩ := gc_bif hg
    obtain rfl := Nat.eq_of_beq_eq_true hb
    obtain ⟨q, hq, hg⟩ := gc_bind hg
    cases q with
    | inl x =>
      obtain rfl := Option.some.inj hg
      exact gc_metP (maxL := 3) (lf := true) hl gc_pnX11 rfl gb_oX11 gc_rk_X11_room gb_nX11 hM gc_ck_X11_room (t_X11_room a b σ _ hq) gd_hoIXl rfl (fun v hv => by cases hv; exact Or.inl rfl) (Nat.le_of_ble_eq_true rfl) rfl
    | inr E =>
      obtain rfl := Option.some.inj hg
      exact gc_metP (maxL := 3) (lf := true) hl gc_pnX11 rfl gb_oX11 gc_rk_X11_room gb_nX11 hM gc_ck_X11_room (t_X11_room a b σ _ hq) gd_hoIXr rfl (fun v hv => by cases hv) (Nat.le_of_ble_eq_true rfl) rfl
  · cases hg
theorem gc_rk_X11_lessonOfClass : cl_X11_lessonOfClass.all (gb_rk gb_flX11 gb_slX11 gb_nlX11 gb_llX11 gb_tlX11 cX11_lessonOfClass) = true := by decide +kernel
theorem gc_ck_X11_lessonOfClass : cl_X11_lessonOfClass.all (gc_ck gb_lkX11 gb_lnX11 [58, 411, 429] 6) = true := by decide +kernel
theorem gm_430 (hl : l.stackTraces = false) : gc_MM l D cA ad A adV 430 := by
  refine ⟨gb_T430, fun h => absurd h (by decide +kernel), fun as σ o hg => ?_⟩
  have hM : ∀ mid ∈ ([58, 411, 429] : List Nat), gc_MM l D cA ad A adV mid := (List.forall_mem_cons.mpr ⟨gm_58 hl, List.forall_mem_cons.mpr ⟨gm_411 hl, List.forall_mem_cons.mpr ⟨gm_429 hl, fun _ h => nomatch h⟩⟩⟩)
  replace hg : c_X11_lessonOfClass as gaSH σ some = some o := hg
  unfold c_X11_lessonOfClass at hg
  split at hg
  · skip
    rename_i r0 a b
    obtain ⟨hb, hg⟩ := gc_bif hg
    obtain rfl := Nat.eq_of_beq_eq_true hb
    obtain ⟨q, hq, hg⟩ := gc_bind hg
    cases q with
    | inl x =>
      obtain rfl := Option.some.inj hg
      exact gc_metP (maxL := 3) (lf := true) hl gc_pnX11 rfl gb_oX11 gc_rk_X11_lessonOfClass gb_nX11 hM gc_ck_X11_lessonOfClass (t_X11_lessonOfClass a b σ _ hq) gd_hoIXl rfl (fun v hv => by cases hv; exact Or.inl rfl) (Nat.le_of_ble_eq_true rfl) rfl
    | inr E =>
      obtain rfl := Option.some.inj hg
      exact gc_metP (maxL := 3) (lf := true) hl gc_pnX11 rfl gb_oX11 gc_rk_X11_lessonOfClass gb_nX11 hM gc_ck_X11_lessonOfClass (t_X11_lessonOfClass a b σ _ hq) gd_hoIXr rfl (fun v hv => by cases hv) (Nat.le_of_ble_eq_true rfl) rfl
  · cases hg
theorem gc_rk_X11_lessonOfTeacher : cl_X11_lessonOfTeacher.all (gb_rk gb_flX11 gb_slX11 gb_nlX11 gb_llX11 gb_tlX11 cX11_lessonOfTeacher) = true := by decide +kernel
theorem gc_ck_X11_lessonOfTeacher : cl_X11_lessonOfTeacher.all (gc_ck gb_lkX11 gb_lnX11 [58, 402, 411] 6) = true := by decide +kernel
theorem gm_431 (hl : l.stackTraces = false) : gc_MM l D cA ad A adV 431 := by
  refine ⟨gb_T431, fun h => absurd h (by decide +kernel), fun as σ o hg => ?_⟩
  have hM : ∀ mid ∈ ([58, 402, 411] : List Nat), gc_MM l D cA ad A adV mid := (List.forall_mem_cons.mpr ⟨gm_58 hl, List.forall_mem_cons.mpr ⟨gm_402 hl, List.forall_mem_cons.mpr ⟨gm_411 hl, fun _ h => nomatch h⟩⟩⟩)
  replace hg : c_X11_lessonOfTeacher as gaSH σ some = some o := hg
  unfold c_X11_lessonOfTeacher at hg
  split at hg
  · skip
    rename_i r0 a b
    obtain ⟨hb, hg⟩ := gc_bif hg
    obtain rfl := Nat.eq_of_beq_eq_true hb
    obtain ⟨q, hq, hg⟩ := gc_bind hg
    cases q with
    | inl x =>
      obtain rfl := Option.some.inj hg
      exact gc_metP (maxL := 3) (lf := true) hl gc_pnX11 rfl gb_oX11 gc_rk_X11_lessonOfTeacher gb_nX11 hM gc_ck_X11_lessonOfTeacher (t_X11_lessonOfTeacher a b σ _ hq) gd_hoIXl rfl (fun v hv => by cases hv; exact Or.inl rfl) (Nat.le_of_ble_eq_true rfl) rfl
    | inr E =>
      obtain rfl := Option.some.inj hg
      exact gc_metP (maxL := 3) (lf := true) hl gc_pnX11 rfl gb_oX11 gc_rk_X11_lessonOfTeacher gb_nX11 hM gc_ck_X11_lessonOfTeacher (t_X11_lessonOfTeacher a b σ _ hq) gd_hoIXr rfl (fun v hv => by cases hv) (Nat.le_of_ble_eq_true rfl) rfl
  · cases hg
theorem gc_rk_X11_lessonInRoom : cl_X11_lessonInRoom.all (gb_rk gb_flX11 gb_slX11 gb_nlX11 gb_llX11 gb_tlX11 cX11_lessonInRoom) = true := by decide +kernel
theorem gc_ck_X11_lessonInRoom : cl_X11_lessonInRoom.all (gc_ck gb_lkX11 gb_lnX11 [58, 411, 413] 6) = true := by decide +kernel
theorem gm_432 (hl : l.stackTraces = false) : gc_MM l D cA ad A adV 432 := by
  refine ⟨gb_T432, fun h => absurd h (by decide +kernel), fun as σ o hg => ?_⟩
  have hM : ∀ mid ∈ ([58, 411, 413] : List Nat), gc_MM l D cA ad A adV mid := (List.forall_mem_cons.mpr ⟨gm_58 hl, List.forall_mem_cons.mpr ⟨gm_411 hl, List.forall_mem_cons.mpr ⟨gm_413 hl, fun _ h => nomatch h⟩⟩⟩)
  replace hg : c_X11_lessonInRoom as gaSH σ some = some o := hg
  unfold c_X11_lessonInRoom at hg
  split at hg
  · skip
    rename_i r0 a b
    obtain ⟨hb, hg⟩ := gc_bif hg
    obtain rfl := Nat.eq_of_beq_eq_true hb
    obtain ⟨q, hq, hg⟩ := gc_bind hg
    cases q with
    | inl x =>
      obtain rfl := Option.some.inj hg
      exact gc_metP (maxL := 3) (lf := true) hl gc_pnX11 rfl gb_oX11 gc_rk_X11_lessonInRoom gb_nX11 hM gc_ck_X11_lessonInRoom (t_X11_lessonInRoom a b σ _ hq) gd_hoIXl rfl (fun v hv => by cases hv; exact Or.inl rfl) (Nat.le_of_ble_eq_true rfl) rfl
    | inr E =>
      obtain rfl := Option.some.inj hg
      exact gc_metP (maxL := 3) (lf := true) hl gc_pnX11 rfl gb_oX11 gc_rk_X11_lessonInRoom gb_nX11 hM gc_ck_X11_lessonInRoom (t_X11_lessonInRoom a b σ _ hq) gd_hoIXr rfl (fun v hv => by cases hv) (Nat.le_of_ble_eq_true rfl) rfl
  · cases hg
theorem gc_rk_X11_freeTeachers : cl_X11_freeTeachers.all (gb_rk gb_flX11 gb_slX11 gb_nlX11 gb_llX11 gb_tlX11 cX11_freeTeachers) = true := by decide +kernel
theorem gc_ck_X11_freeTeachers : cl_X11_freeTeachers.all (gc_ck gb_lkX11 gb_lnX11 [45, 58, 411] 6) = true := by decide +kernel
theorem gm_433 (hl : l.stackTraces = false) : gc_MM l D cA ad A adV 433 := by
  refine ⟨gb_T433, fun h => absurd h (by decide +kernel), fun as σ o hg => ?_⟩
  have hM : ∀ mid ∈ ([45, 58, 411] : List Nat), gc_MM l D cA ad A adV mid := (List.forall_mem_cons.mpr ⟨gm_45 hl, List.forall_mem_cons.mpr ⟨gm_58 hl, List.forall_mem_cons.mpr ⟨gm_411 hl, fun _ h => nomatch h⟩⟩⟩)
  replace hg : c_X11_freeTeachers as gaSH σ some = some o := hg
  unfold c_X11_freeTeachers at hg
  split at hg
  · skip
    rename_i r0 a
    obtain ⟨hb, hg⟩ := gc_bif hg
    obtain rfl := Nat.eq_of_beq_eq_true hb
    obtain ⟨q, hq, hg⟩ := gc_bind hg
    cases q with
    | inl x =>
      obtain rfl := Option.some.inj hg
      exact gc_metP (maxL := 4) (lf := true) hl gc_pnX11 rfl gb_oX11 gc_rk_X11_freeTeachers gb_nX11 hM gc_ck_X11_freeTeachers (t_X11_freeTeachers a σ _ hq) gd_hoIXl rfl (fun v hv => by cases hv; exact Or.inl rfl) (Nat.le_of_ble_eq_true rfl) rfl
    | inr E =>
      obtain rfl := Option.some.inj hg
      exact gc_metP (maxL := 4) (lf := true) hl gc_pnX11 rfl gb_oX11 gc_rk_X11_freeTeachers gb_nX11 hM gc_ck_X11_freeTeachers (t_X11_freeTeachers a σ _ hq) gd_hoIXr rfl (fun v hv => by cases hv) (Nat.le_of_ble_eq_true rfl) rfl
  · cases hg
theorem gc_rk_X11_freeRooms : cl_X11_freeRooms.all (gb_rk gb_flX11 gb_slX11 gb_nlX11 gb_llX11 gb_tlX11 cX11_freeRooms) = true := by decide +kernel
theorem gc_ck_X11_freeRooms : cl_X11_freeRooms.all (gc_ck gb_lkX11 gb_lnX11 [1, 58, 411] 6) = true := by decide +kernel
theorem gm_434 (hl : l.stackTraces = false) : gc_MM l D cA ad A adV 434 := by
  refine ⟨gb_T434, fun h => absurd h (by decide +kernel), fun as σ o hg => ?_⟩
  have hM : ∀ mid ∈ ([1, 58, 411] : List Nat), gc_MM l D cA ad A adV mid := (List.forall_mem_cons.mpr ⟨gm_1 hl, List.forall_mem_cons.mpr ⟨gm_58 hl, List.forall_mem_cons.mpr ⟨gm_411 hl, fun _ h => nomatch h⟩⟩⟩)
  replace hg : c_X11_freeRooms as gaSH σ some = some o := hg
  unfold c_X11_freeRooms at hg
  split at hg
  · skip
    rename_i r0 a b
    obtain ⟨hb, hg⟩ := gc_bif hg
    obtain rfl := Nat.eq_of_beq_eq_true hb
    obtain ⟨q, hq, hg⟩ := gc_bind hg
    cases q with
    | inl x =>
      obtain rfl := Option.some.inj hg
      exact gc_metP (maxL := 5) (lf := true) hl gc_pnX11 rfl gb_oX11 gc_rk_X11_freeRooms gb_nX11 hM gc_ck_X11_freeRooms (t_X11_freeRooms a b σ _ hq) gd_hoIXl rfl (fun v hv => by cases hv; exact Or.inl rfl) (Nat.le_of_ble_eq_true rfl) rfl
    | inr E =>
      obtain rfl := Option.some.inj hg
      exact gc_metP (maxL := 5) (lf := true) hl gc_pnX11 rfl gb_oX11 gc_rk_X11_freeRooms gb_nX11 hM gc_ck_X11_freeRooms (t_X11_freeRooms a b σ _ hq) gd_hoIXr rfl (fun v hv => by cases hv) (Nat.le_of_ble_eq_true rfl) rfl
  · cases hg
theorem gc_rk_X11_windows : cl_X11_windows.all (gb_rk gb_flX11 gb_slX11 gb_nlX11 gb_llX11 gb_tlX11 cX11_windows) = true := by decide +kernel
theorem gc_ck_X11_windows : cl_X11_windows.all (gc_ck gb_lkX11 gb_lnX11 [101, 402, 403] 6) = true := by decide +kernel
theorem gm_435 (hl : l.stackTraces = false) : gc_MM l D cA ad A adV 435 := by
  refine ⟨gb_T435, fun h => absurd h (by decide +kernel), fun as σ o hg => ?_⟩
  have hM : ∀ mid ∈ ([101, 402, 403] : List Nat), gc_MM l D cA ad A adV mid := (List.forall_mem_cons.mpr ⟨gm_101 hl, List.forall_mem_cons.mpr ⟨gm_402 hl, List.forall_mem_cons.mpr ⟨gm_403 hl, fun _ h => nomatch h⟩⟩⟩)
  replace hg : c_X11_windows as gaSH σ some = some o := hg
  unfold c_X11_windows at hg
  split at hg
  · skip
    rename_i r0 a b
    obtain ⟨hb, hg⟩ := gc_bif hg
    obtain rfl := Nat.eq_of_beq_eq_true hb
    obtain ⟨q, hq, hg⟩ := gc_bind hg
    cases q with
    | inl x =>
      obtain rfl := Option.some.inj hg
      exact gc_metP (maxL := 3) (lf := true) hl gc_pnX11 rfl gb_oX11 gc_rk_X11_windows gb_nX11 hM gc_ck_X11_windows (t_X11_windows a b σ _ hq) gd_hoIXl rfl (fun v hv => by cases hv; exact Or.inl rfl) (Nat.le_of_ble_eq_true rfl) rfl
    | inr E =>
      obtain rfl := Option.some.inj hg
      exact gc_metP (maxL := 3) (lf := true) hl gc_pnX11 rfl gb_oX11 gc_rk_X11_windows gb_nX11 hM gc_ck_X11_windows (t_X11_windows a b σ _ hq) gd_hoIXr rfl (fun v hv => by cases hv) (Nat.le_of_ble_eq_true rfl) rfl
  · cases hg
theorem gc_rk_X11_writeReport : cl_X11_writeReport.all (gb_rk gb_flX11 gb_slX11 gb_nlX11 gb_llX11 gb_tlX11 cX11_writeReport) = true := by decide +kernel
theorem gc_ck_X11_writeReport : cl_X11_writeReport.all (gc_ck gb_lkX11 gb_lnX11 [108, 429] 6) = true := by decide +kernel
theorem gm_436 (hl : l.stackTraces = false) : gc_MM l D cA ad A adV 436 := by
  refine ⟨gb_T436, fun h => absurd h (by decide +kernel), fun as σ o hg => ?_⟩
  have hM : ∀ mid ∈ ([108, 429] : List Nat), gc_MM l D cA ad A adV mid := (List.forall_mem_cons.mpr ⟨gm_108 hl, List.forall_mem_cons.mpr ⟨gm_429 hl, fun _ h => nomatch h⟩⟩)
  replace hg : c_X11_writeReport as gaSH σ some = some o := hg
  unfold c_X11_writeReport at hg
  split at hg
  · skip
    rename_i r0 a
    obtain ⟨hb, hg⟩ := gc_bif hg
    obtain rfl := Nat.eq_of_beq_eq_true hb
    obtain ⟨q, hq, hg⟩ := gc_bind hg
    obtain ⟨q, s1⟩ := q
    cases q with
    | inl x =>
      obtain rfl := Option.some.inj hg
      exact gc_metG (maxL := 2) (lf := true) hl gc_pnX11 rfl gb_oX11 gc_rk_X11_writeReport gb_nX11 hM gc_ck_X11_writeReport (t_X11_writeReport a σ _ hq) gc_hoIXl rfl (fun v hv => by cases hv; exact Or.inl rfl) (Nat.le_of_ble_eq_true rfl) rfl
    | inr E =>
      obtain rfl := Option.some.inj hg
      exact gc_metG (maxL := 2) (lf := true) hl gc_pnX11 rfl gb_oX11 gc_rk_X11_writeReport gb_nX11 hM gc_ck_X11_writeReport (t_X11_writeReport a σ _ hq) gc_hoIXr rfl (fun v hv => by cases hv) (Nat.le_of_ble_eq_true rfl) rfl
  · cases hg
theorem gc_rk_X8_readGrid : cl_X8_readGrid.all (gb_rk gb_flX8 gb_slX8 gb_nlX8 gb_llX8 gb_tlX8 cX8_readGrid) = true := by decide +kernel
theorem gc_ck_X8_readGrid : cl_X8_readGrid.all (gc_ck gb_lkX8 gb_lnX8 [19, 20, 21, 22] 7) = true := by decide +kernel
theorem gm_23 (hl : l.stackTraces = false) : gc_MM l D cA ad A adV 23 := by
  refine ⟨gb_T23, fun h => absurd h (by decide +kernel), fun as σ o hg => ?_⟩
  have hM : ∀ mid ∈ ([19, 20, 21, 22] : List Nat), gc_MM l D cA ad A adV mid := (List.forall_mem_cons.mpr ⟨gm_19 hl, List.forall_mem_cons.mpr ⟨gm_20 hl, List.forall_mem_cons.mpr ⟨gm_21 hl, List.forall_mem_cons.mpr ⟨gm_22 hl, fun _ h => nomatch h⟩⟩⟩⟩)
  replace hg : c_X8_readGrid as gaSH σ some = some o := hg
  unfold c_X8_readGrid at hg
  split at hg
  · skip
    rename_i r0
    obtain ⟨hb, hg⟩ := gc_bif hg
    obtain rfl := Nat.eq_of_beq_eq_true hb
    obtain ⟨q, hq, hg⟩ := gc_bind hg
    obtain rfl := Option.some.inj hg
    exact gc_metG (maxL := 1) (lf := true) hl gc_pnX8 rfl gb_oX8 gc_rk_X8_readGrid gb_nX8 hM gc_ck_X8_readGrid (t_X8_readGrid σ _ hq) gc_hoI rfl (fun v hv => by cases hv; exact Or.inr ⟨rfl, z_X8_readGrid σ _ hq⟩) (Nat.le_of_ble_eq_true rfl) rfl
  · cases hg
theorem gc_rk_X8_readSubjects : cl_X8_readSubjects.all (gb_rk gb_flX8 gb_slX8 gb_nlX8 gb_llX8 gb_tlX8 cX8_readSubjects) = true := by decide +kernel
theorem gc_ck_X8_readSubjects : cl_X8_readSubjects.all (gc_ck gb_lkX8 gb_lnX8 [16, 18, 19, 20, 21, 22, 24] 7) = true := by decide +kernel
theorem gm_25 (hl : l.stackTraces = false) : gc_MM l D cA ad A adV 25 := by
  refine ⟨gb_T25, fun h => absurd h (by decide +kernel), fun as σ o hg => ?_⟩
  have hM : ∀ mid ∈ ([16, 18, 19, 20, 21, 22, 24] : List Nat), gc_MM l D cA ad A adV mid := (List.forall_mem_cons.mpr ⟨gm_16 hl, List.forall_mem_cons.mpr ⟨gm_18 hl, List.forall_mem_cons.mpr ⟨gm_19 hl, List.forall_mem_cons.mpr ⟨gm_20 hl, List.forall_mem_cons.mpr ⟨gm_21 hl, List.forall_mem_cons.mpr ⟨gm_22 hl, List.forall_mem_cons.mpr ⟨gm_24 hl, fun _ h => nomatch h⟩⟩⟩⟩⟩⟩⟩)
  replace hg : c_X8_readSubjects as gaSH σ some = some o := hg
  unfold c_X8_readSubjects at hg
  split at hg
  · skip
    rename_i r0
    obtain ⟨hb, hg⟩ := gc_bif hg
    obtain rfl := Nat.eq_of_beq_eq_true hb
    obtain ⟨q, hq, hg⟩ := gc_bind hg
    obtain rfl := Option.some.inj hg
    exact gc_metG (maxL := 2) (lf := true) hl gc_pnX8 rfl gb_oX8 gc_rk_X8_readSubjects gb_nX8 hM gc_ck_X8_readSubjects (t_X8_readSubjects σ _ hq) gc_hoI rfl (fun v hv => by cases hv; exact Or.inr ⟨rfl, z_X8_readSubjects σ _ hq⟩) (Nat.le_of_ble_eq_true rfl) rfl
  · cases hg
theorem gc_rk_X8_readTeachers : cl_X8_readTeachers.all (gb_rk gb_flX8 gb_slX8 gb_nlX8 gb_llX8 gb_tlX8 cX8_readTeachers) = true := by decide +kernel
theorem gc_ck_X8_readTeachers : cl_X8_readTeachers.all (gc_ck gb_lkX8 gb_lnX8 [16, 18, 19, 28] 7) = true := by decide +kernel
theorem gm_29 (hl : l.stackTraces = false) : gc_MM l D cA ad A adV 29 := by
  refine ⟨gb_T29, fun h => absurd h (by decide +kernel), fun as σ o hg => ?_⟩
  have hM : ∀ mid ∈ ([16, 18, 19, 28] : List Nat), gc_MM l D cA ad A adV mid := (List.forall_mem_cons.mpr ⟨gm_16 hl, List.forall_mem_cons.mpr ⟨gm_18 hl, List.forall_mem_cons.mpr ⟨gm_19 hl, List.forall_mem_cons.mpr ⟨gm_28 hl, fun _ h => nomatch h⟩⟩⟩⟩)
  replace hg : c_X8_readTeachers as gaSH σ some = some o := hg
  unfold c_X8_readTeachers at hg
  split at hg
  · skip
    rename_i r0
    obtain ⟨hb, hg⟩ := gc_bif hg
    obtain rfl := Nat.eq_of_beq_eq_true hb
    obtain ⟨q, hq, hg⟩ := gc_bind hg
    obtain rfl := Option.some.inj hg
    exact gc_metG (maxL := 2) (lf := true) hl gc_pnX8 rfl gb_oX8 gc_rk_X8_readTeachers gb_nX8 hM gc_ck_X8_readTeachers (t_X8_readTeachers σ _ hq) gc_hoI rfl (fun v hv => by cases hv; exact Or.inr ⟨rfl, z_X8_readTeachers σ _ hq⟩) (Nat.le_of_ble_eq_true rfl) rfl
  · cases hg
theorem gc_rk_X8_readRooms : cl_X8_readRooms.all (gb_rk gb_flX8 gb_slX8 gb_nlX8 gb_llX8 gb_tlX8 cX8_readRooms) = true := by decide +kernel
theorem gc_ck_X8_readRooms : cl_X8_readRooms.all (gc_ck gb_lkX8 gb_lnX8 [16, 18, 19, 20, 21, 22, 30] 7) = true := by decide +kernel
theorem gm_31 (hl : l.stackTraces = false) : gc_MM l D cA ad A adV 31 := by
  refine ⟨gb_T31, fun h => absurd h (by decide +kernel), fun as σ o hg => ?_⟩
  have hM : ∀ mid ∈ ([16, 18, 19, 20, 21, 22, 30] : List Nat), gc_MM l D cA ad A adV mid := (List.forall_mem_cons.mpr ⟨gm_16 hl, List.forall_mem_cons.mpr ⟨gm_18 hl, List.forall_mem_cons.mpr ⟨gm_19 hl, List.forall_mem_cons.mpr ⟨gm_20 hl, List.forall_mem_cons.mpr ⟨gm_21 hl, List.forall_mem_cons.mpr ⟨gm_22 hl, List.forall_mem_cons.mpr ⟨gm_30 hl, fun _ h => nomatch h⟩⟩⟩⟩⟩⟩⟩)
  replace hg : c_X8_readRooms as gaSH σ some = some o := hg
  unfold c_X8_readRooms at hg
  split at hg
  · skip
    rename_i r0
    obtain ⟨hb, hg⟩ := gc_bif hg
    obtain rfl := Nat.eq_of_beq_eq_true hb
    obtain ⟨q, hq, hg⟩ := gc_bind hg
    obtain rfl := Option.some.inj hg
    exact gc_metG (maxL := 2) (lf := true) hl gc_pnX8 rfl gb_oX8 gc_rk_X8_readRooms gb_nX8 hM gc_ck_X8_readRooms (t_X8_readRooms σ _ hq) gc_hoI rfl (fun v hv => by cases hv; exact Or.inr ⟨rfl, z_X8_readRooms σ _ hq⟩) (Nat.le_of_ble_eq_true rfl) rfl
  · cases hg
end
