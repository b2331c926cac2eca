section
variable {l : Launch} {D : va_G} {cA : Nat → ClassId} {ad : Nat → Nat} {A : Nat → Prop} {adV : Nat → Nat}
theorem gc_rk_X3_isOpen : cl_X3_isOpen.all (gb_rk gb_flX3 gb_slX3 gb_nlX3 gb_llX3 gb_tlX3 cX3_isOpen) = true := by decide +kernel
theorem gc_ck_X3_isOpen : cl_X3_isOpen.all (gc_ck gb_lkX3 gb_lnX3 [1] 1) = true := by decide +kernel
theorem gm_88 (hl : l.stackTraces = false) : gc_MM l D cA ad A adV 88 := by
  refine ⟨gb_T88, fun h => absurd h (by decide +kernel), fun as σ o hg => ?_⟩
  have hM : ∀ mid ∈ ([1] : List Nat), gc_MM l D cA ad A adV mid := (List.forall_mem_cons.mpr ⟨gm_1 hl, fun _ h => nomatch h⟩)
  replace hg : c_X3_isOpen as gaSH σ some = some o := hg
  unfold c_X3_isOpen at hg
  split at hg
  · skip
    rename_i r0 a
    obtain ⟨hb, hg⟩ := gc_bif hg
    obtain rfl := Nat.eq_of_beq_eq_true hb
    obtain rfl := Option.some.inj hg
    exact gc_metP (maxL := 2) (lf := true) hl gc_pnX3 rfl gb_oX3 gc_rk_X3_isOpen gb_nX3 hM gc_ck_X3_isOpen (t_X3_isOpen a σ _ (e_X3_isOpen a σ)) gd_hoI rfl (fun v hv => by cases hv; exact Or.inr ⟨rfl, z_X3_isOpen a σ⟩) (Nat.le_of_ble_eq_true rfl) rfl
  · cases hg
theorem gc_rk_X3_isTaught : cl_X3_isTaught.all (gb_rk gb_flX3 gb_slX3 gb_nlX3 gb_llX3 gb_tlX3 cX3_isTaught) = true := by decide +kernel
theorem gc_ck_X3_isTaught : cl_X3_isTaught.all (gc_ck gb_lkX3 gb_lnX3 [1] 1) = true := by decide +kernel
theorem gm_91 (hl : l.stackTraces = false) : gc_MM l D cA ad A adV 91 := by
  refine ⟨gb_T91, fun h => absurd h (by decide +kernel), fun as σ o hg => ?_⟩
  have hM : ∀ mid ∈ ([1] : List Nat), gc_MM l D cA ad A adV mid := (List.forall_mem_cons.mpr ⟨gm_1 hl, fun _ h => nomatch h⟩)
  replace hg : c_X3_isTaught as gaSH σ some = some o := hg
  unfold c_X3_isTaught at hg
  split at hg
  · skip
    rename_i r0 a
    obtain ⟨hb, hg⟩ := gc_bif hg
    obtain rfl := Nat.eq_of_beq_eq_true hb
    obtain rfl := Option.some.inj hg
    exact gc_metP (maxL := 2) (lf := true) hl gc_pnX3 rfl gb_oX3 gc_rk_X3_isTaught gb_nX3 hM gc_ck_X3_isTaught (t_X3_isTaught a σ _ (e_X3_isTaught a σ)) gd_hoI rfl (fun v hv => by cases hv; exact Or.inr ⟨rfl, z_X3_isTaught a σ⟩) (Nat.le_of_ble_eq_true rfl) rfl
  · cases hg
theorem gc_rk_X7_qualifiedFor : cl_X7_qualifiedFor.all (gb_rk gb_flX7 gb_slX7 gb_nlX7 gb_llX7 gb_tlX7 cX7_qualifiedFor) = true := by decide +kernel
theorem gc_ck_X7_qualifiedFor : cl_X7_qualifiedFor.all (gc_ck gb_lkX7 gb_lnX7 [1, 32] 1) = true := by decide +kernel
theorem gm_92 (hl : l.stackTraces = false) : gc_MM l D cA ad A adV 92 := by
  refine ⟨gb_T92, fun h => absurd h (by decide +kernel), fun as σ o hg => ?_⟩
  have hM : ∀ mid ∈ ([1, 32] : List Nat), gc_MM l D cA ad A adV mid := (List.forall_mem_cons.mpr ⟨gm_1 hl, List.forall_mem_cons.mpr ⟨gm_32 hl, fun _ h => nomatch h⟩⟩)
  replace hg : c_X7_qualifiedFor as gaSH σ some = some o := hg
  unfold c_X7_qualifiedFor at hg
  split at hg
  · skip
    rename_i r0 a
    obtain ⟨hb, hg⟩ := gc_bif hg
    obtain rfl := Nat.eq_of_beq_eq_true hb
    obtain ⟨q, hq, hg⟩ := gc_bind hg
    obtain rfl := Option.some.inj hg
    exact gc_metP (maxL := 4) (lf := true) hl gc_pnX7 rfl gb_oX7 gc_rk_X7_qualifiedFor gb_nX7 hM gc_ck_X7_qualifiedFor (t_X7_qualifiedFor a σ _ hq) gd_hoI rfl (fun v hv => by cases hv; exact Or.inl rfl) (Nat.le_of_ble_eq_true rfl) rfl
  · cases hg
theorem gc_rk_X3_loadOf : cl_X3_loadOf.all (gb_rk gb_flX3 gb_slX3 gb_nlX3 gb_llX3 gb_tlX3 cX3_loadOf) = true := by decide +kernel
theorem gc_ck_X3_loadOf : cl_X3_loadOf.all (gc_ck gb_lkX3 gb_lnX3 [1] 1) = true := by decide +kernel
theorem gm_94 (hl : l.stackTraces = false) : gc_MM l D cA ad A adV 94 := by
  refine ⟨gb_T94, fun h => absurd h (by decide +kernel), fun as σ o hg => ?_⟩
  have hM : ∀ mid ∈ ([1] : List Nat), gc_MM l D cA ad A adV mid := (List.forall_mem_cons.mpr ⟨gm_1 hl, fun _ h => nomatch h⟩)
  replace hg : c_X3_loadOf as gaSH σ some = some o := hg
  unfold c_X3_loadOf at hg
  split at hg
  · skip
    rename_i r0 a
    obtain ⟨hb, hg⟩ := gc_bif hg
    obtain rfl := Nat.eq_of_beq_eq_true hb
    obtain ⟨q, hq, hg⟩ := gc_bind hg
    obtain rfl := Option.some.inj hg
    exact gc_metP (maxL := 4) (lf := true) hl gc_pnX3 rfl gb_oX3 gc_rk_X3_loadOf gb_nX3 hM gc_ck_X3_loadOf (t_X3_loadOf a σ _ hq) gd_hoI rfl (fun v hv => by cases hv; exact Or.inl rfl) (Nat.le_of_ble_eq_true rfl) rfl
  · cases hg
theorem gc_rk_X0_successorsOf : cl_X0_successorsOf.all (gb_rk gb_flX0 gb_slX0 gb_nlX0 gb_llX0 gb_tlX0 cX0_successorsOf) = true := by decide +kernel
theorem gc_ck_X0_successorsOf : cl_X0_successorsOf.all (gc_ck gb_lkX0 gb_lnX0 [1, 32] 1) = true := by decide +kernel
theorem gm_96 (hl : l.stackTraces = false) : gc_MM l D cA ad A adV 96 := by
  refine ⟨gb_T96, fun h => absurd h (by decide +kernel), fun as σ o hg => ?_⟩
  have hM : ∀ mid ∈ ([1, 32] : List Nat), gc_MM l D cA ad A adV mid := (List.forall_mem_cons.mpr ⟨gm_1 hl, List.forall_mem_cons.mpr ⟨gm_32 hl, fun _ h => nomatch h⟩⟩)
  replace hg : c_X0_successorsOf as gaSH σ some = some o := hg
  unfold c_X0_successorsOf at hg
  split at hg
  · skip
    rename_i r0 a
    obtain ⟨hb, hg⟩ := gc_bif hg
    obtain rfl := Nat.eq_of_beq_eq_true hb
    obtain ⟨q, hq, hg⟩ := gc_bind hg
    obtain rfl := Option.some.inj hg
    exact gc_metP (maxL := 4) (lf := true) hl gc_pnX0 rfl gb_oX0 gc_rk_X0_successorsOf gb_nX0 hM gc_ck_X0_successorsOf (t_X0_successorsOf a σ _ hq) gd_hoI rfl (fun v hv => by cases hv; exact Or.inl rfl) (Nat.le_of_ble_eq_true rfl) rfl
  · cases hg
theorem gc_rk_X0_thoseBefore : cl_X0_thoseBefore.all (gb_rk gb_flX0 gb_slX0 gb_nlX0 gb_llX0 gb_tlX0 cX0_thoseBefore) = true := by decide +kernel
theorem gc_ck_X0_thoseBefore : cl_X0_thoseBefore.all (gc_ck gb_lkX0 gb_lnX0 [1, 32] 1) = true := by decide +kernel
theorem gm_97 (hl : l.stackTraces = false) : gc_MM l D cA ad A adV 97 := by
  refine ⟨gb_T97, fun h => absurd h (by decide +kernel), fun as σ o hg => ?_⟩
  have hM : ∀ mid ∈ ([1, 32] : List Nat), gc_MM l D cA ad A adV mid := (List.forall_mem_cons.mpr ⟨gm_1 hl, List.forall_mem_cons.mpr ⟨gm_32 hl, fun _ h => nomatch h⟩⟩)
  replace hg : c_X0_thoseBefore as gaSH σ some = some o := hg
  unfold c_X0_thoseBefore at hg
  split at hg
  · skip
    rename_i r0 a b
    obtain ⟨hb, hg⟩ := gc_bif hg
    obtain rfl := Nat.eq_of_beq_eq_true hb
    obtain ⟨q, hq, hg⟩ := gc_bind hg
    obtain rfl := Option.some.inj hg
    exact gc_metP (maxL := 5) (lf := true) hl gc_pnX0 rfl gb_oX0 gc_rk_X0_thoseBefore gb_nX0 hM gc_ck_X0_thoseBefore (t_X0_thoseBefore a b σ _ hq) gd_hoI rfl (fun v hv => by cases hv; exact Or.inl rfl) (Nat.le_of_ble_eq_true rfl) rfl
  · cases hg
theorem gc_rk_X0_lowest : cl_X0_lowest.all (gb_rk gb_flX0 gb_slX0 gb_nlX0 gb_llX0 gb_tlX0 cX0_lowest) = true := by decide +kernel
theorem gc_ck_X0_lowest : cl_X0_lowest.all (gc_ck gb_lkX0 gb_lnX0 [32] 1) = true := by decide +kernel
theorem gm_98 (hl : l.stackTraces = false) : gc_MM l D cA ad A adV 98 := by
  refine ⟨gb_T98, fun h => absurd h (by decide +kernel), fun as σ o hg => ?_⟩
  have hM : ∀ mid ∈ ([32] : List Nat), gc_MM l D cA ad A adV mid := (List.forall_mem_cons.mpr ⟨gm_32 hl, fun _ h => nomatch h⟩)
  replace hg : c_X0_lowest as gaSH σ some = some o := hg
  unfold c_X0_lowest at hg
  split at hg
  · skip
    rename_i r0 a
    obtain ⟨hb, hg⟩ := gc_bif hg
    obtain rfl := Nat.eq_of_beq_eq_true hb
    obtain ⟨q, hq, hg⟩ := gc_bind hg
    obtain rfl := Option.some.inj hg
    exact gc_metP (maxL := 3) (lf := true) hl gc_pnX0 rfl gb_oX0 gc_rk_X0_lowest gb_nX0 hM gc_ck_X0_lowest (t_X0_lowest a σ _ hq) gd_hoI rfl (fun v hv => by cases hv; exact Or.inl rfl) (Nat.le_of_ble_eq_true rfl) rfl
  · cases hg
theorem gc_rk_X3_lessonAt : cl_X3_lessonAt.all (gb_rk gb_flX3 gb_slX3 gb_nlX3 gb_llX3 gb_tlX3 cX3_lessonAt) = true := by decide +kernel
theorem gc_ck_X3_lessonAt : cl_X3_lessonAt.all (gc_ck gb_lkX3 gb_lnX3 [1] 1) = true := by decide +kernel
theorem gm_101 (hl : l.stackTraces = false) : gc_MM l D cA ad A adV 101 := by
  refine ⟨gb_T101, fun h => absurd h (by decide +kernel), fun as σ o hg => ?_⟩
  have hM : ∀ mid ∈ ([1] : List Nat), gc_MM l D cA ad A adV mid := (List.forall_mem_cons.mpr ⟨gm_1 hl, fun _ h => nomatch h⟩)
  replace hg : c_X3_lessonAt as gaSH σ some = some o := hg
  unfold c_X3_lessonAt at hg
  split at hg
  · skip
    rename_i r0 a r1 b
    rcases gc_bif2 hg with ⟨hb, hg⟩ | hg
    · skip
      obtain ⟨hb0, hb1⟩ := Bool.and_eq_true_iff.mp hb
      obtain rfl := Nat.eq_of_beq_eq_true hb0
      obtain rfl := Nat.eq_of_beq_eq_true hb1
      obtain ⟨q, hq, hg⟩ := gc_bind hg
      obtain rfl := Option.some.inj hg
      exact gc_metP (maxL := 5) (lf := true) hl gc_pnX3 rfl gb_oX3 gc_rk_X3_lessonAt gb_nX3 hM gc_ck_X3_lessonAt (t_X3_lessonAt_23 a b σ _ hq) gd_hoI rfl (fun v hv => by cases hv; exact Or.inl rfl) (Nat.le_of_ble_eq_true rfl) rfl
    · skip
      rcases gc_bif2 hg with ⟨hb, hg⟩ | hg
      · skip
        obtain ⟨hb0, hb1⟩ := Bool.and_eq_true_iff.mp hb
        obtain rfl := Nat.eq_of_beq_eq_true hb0
        obtain rfl := Nat.eq_of_beq_eq_true hb1
        obtain ⟨q, hq, hg⟩ := gc_bind hg
        obtain rfl := Option.some.inj hg
        exact gc_metP (maxL := 5) (lf := true) hl gc_pnX3 rfl gb_oX3 gc_rk_X3_lessonAt gb_nX3 hM gc_ck_X3_lessonAt (t_X3_lessonAt_25 a b σ _ hq) gd_hoI rfl (fun v hv => by cases hv; exact Or.inl rfl) (Nat.le_of_ble_eq_true rfl) rfl
      · skip
        obtain ⟨hb, hg⟩ := gc_bif hg
        obtain ⟨hb0, hb1⟩ := Bool.and_eq_true_iff.mp hb
        obtain rfl := Nat.eq_of_beq_eq_true hb0
        obtain rfl := Nat.eq_of_beq_eq_true hb1
        obtain ⟨q, hq, hg⟩ := gc_bind hg
        obtain rfl := Option.some.inj hg
        exact gc_metP (maxL := 5) (lf := true) hl gc_pnX3 rfl gb_oX3 gc_rk_X3_lessonAt gb_nX3 hM gc_ck_X3_lessonAt (t_X3_lessonAt_10 a b σ _ hq) gd_hoI rfl (fun v hv => by cases hv; exact Or.inl rfl) (Nat.le_of_ble_eq_true rfl) rfl
  · cases hg
theorem gc_rk_X3_letTeach : cl_X3_letTeach.all (gb_rk gb_flX3 gb_slX3 gb_nlX3 gb_llX3 gb_tlX3 cX3_letTeach) = true := by decide +kernel
theorem gc_ck_X3_letTeach : cl_X3_letTeach.all (gc_ck gb_lkX3 gb_lnX3 [2] 1) = true := by decide +kernel
theorem gm_102 (hl : l.stackTraces = false) : gc_MM l D cA ad A adV 102 := by
  refine ⟨gb_T102, fun h => absurd h (by decide +kernel), fun as σ o hg => ?_⟩
  have hM : ∀ mid ∈ ([2] : List Nat), gc_MM l D cA ad A adV mid := (List.forall_mem_cons.mpr ⟨gm_2 hl, fun _ h => nomatch h⟩)
  replace hg : c_X3_letTeach as gaSH σ some = some o := hg
  unfold c_X3_letTeach at hg
  split at hg
  · skip
    rename_i r0 a b
    obtain ⟨hb, hg⟩ := gc_bif hg
    obtain rfl := Nat.eq_of_beq_eq_true hb
    obtain rfl := Option.some.inj hg
    exact gc_metG (maxL := 3) (lf := true) hl gc_pnX3 rfl gb_oX3 gc_rk_X3_letTeach gb_nX3 hM gc_ck_X3_letTeach (t_X3_letTeach a b σ _ (e_X3_letTeach a b σ)) gc_hoV rfl (fun v hv => by cases hv; rfl) (Nat.le_of_ble_eq_true rfl) rfl
  · cases hg
theorem gc_rk_X7_hasSlot : cl_X7_hasSlot.all (gb_rk gb_flX7 gb_slX7 gb_nlX7 gb_llX7 gb_tlX7 cX7_hasSlot) = true := by decide +kernel
theorem gc_ck_X7_hasSlot : cl_X7_hasSlot.all (gc_ck gb_lkX7 gb_lnX7 [38] 1) = true := by decide +kernel
theorem gm_107 (hl : l.stackTraces = false) : gc_MM l D cA ad A adV 107 := by
  refine ⟨gb_T107, fun h => absurd h (by decide +kernel), fun as σ o hg => ?_⟩
  have hM : ∀ mid ∈ ([38] : List Nat), gc_MM l D cA ad A adV mid := (List.forall_mem_cons.mpr ⟨gm_38 hl, fun _ h => nomatch h⟩)
  replace hg : c_X7_hasSlot as gaSH σ some = some o := hg
  unfold c_X7_hasSlot at hg
  split at hg
  · skip
    rename_i r0 a
    obtain ⟨hb, hg⟩ := gc_bif hg
    obtain rfl := Nat.eq_of_beq_eq_true hb
    obtain rfl := Option.some.inj hg
    exact gc_metP (maxL := 2) (lf := true) hl gc_pnX7 rfl gb_oX7 gc_rk_X7_hasSlot gb_nX7 hM gc_ck_X7_hasSlot (t_X7_hasSlot a σ _ (e_X7_hasSlot a σ)) gd_hoI rfl (fun v hv => by cases hv; exact Or.inr ⟨rfl, z_X7_hasSlot a σ⟩) (Nat.le_of_ble_eq_true rfl) rfl
  · cases hg
theorem gc_rk_X3_isSupervised : cl_X3_isSupervised.all (gb_rk gb_flX3 gb_slX3 gb_nlX3 gb_llX3 gb_tlX3 cX3_isSupervised) = true := by decide +kernel
theorem gc_ck_X3_isSupervised : cl_X3_isSupervised.all (gc_ck gb_lkX3 gb_lnX3 [1] 1) = true := by decide +kernel
theorem gm_115 (hl : l.stackTraces = false) : gc_MM l D cA ad A adV 115 := by
  refine ⟨gb_T115, fun h => absurd h (by decide +kernel), fun as σ o hg => ?_⟩
  have hM : ∀ mid ∈ ([1] : List Nat), gc_MM l D cA ad A adV mid := (List.forall_mem_cons.mpr ⟨gm_1 hl, fun _ h => nomatch h⟩)
  replace hg : c_X3_isSupervised as gaSH σ some = some o := hg
  unfold c_X3_isSupervised at hg
  split at hg
  · skip
    rename_i r0 a
    obtain ⟨hb, hg⟩ := gc_bif hg
    obtain rfl := Nat.eq_of_beq_eq_true hb
    obtain rfl := Option.some.inj hg
    exact gc_metP (maxL := 2) (lf := true) hl gc_pnX3 rfl gb_oX3 gc_rk_X3_isSupervised gb_nX3 hM gc_ck_X3_isSupervised (t_X3_isSupervised a σ _ (e_X3_isSupervised a σ)) gd_hoI rfl (fun v hv => by cases hv; exact Or.inr ⟨rfl, z_X3_isSupervised a σ⟩) (Nat.le_of_ble_eq_true rfl) rfl
  · cases hg
theorem gc_rk_X3_letWatch : cl_X3_letWatch.all (gb_rk gb_flX3 gb_slX3 gb_nlX3 gb_llX3 gb_tlX3 cX3_letWatch) = true := by decide +kernel
theorem gc_ck_X3_letWatch : cl_X3_letWatch.all (gc_ck gb_lkX3 gb_lnX3 [2] 1) = true := by decide +kernel
theorem gm_118 (hl : l.stackTraces = false) : gc_MM l D cA ad A adV 118 := by
  refine ⟨gb_T118, fun h => absurd h (by decide +kernel), fun as σ o hg => ?_⟩
  have hM : ∀ mid ∈ ([2] : List Nat), gc_MM l D cA ad A adV mid := (List.forall_mem_cons.mpr ⟨gm_2 hl, fun _ h => nomatch h⟩)
  replace hg : c_X3_letWatch as gaSH σ some = some o := hg
  unfold c_X3_letWatch at hg
  split at hg
  · skip
    rename_i r0 a b
    obtain ⟨hb, hg⟩ := gc_bif hg
    obtain rfl := Nat.eq_of_beq_eq_true hb
    obtain rfl := Option.some.inj hg
    exact gc_metG (maxL := 3) (lf := true) hl gc_pnX3 rfl gb_oX3 gc_rk_X3_letWatch gb_nX3 hM gc_ck_X3_letWatch (t_X3_letWatch a b σ _ (e_X3_letWatch a b σ)) gc_hoV rfl (fun v hv => by cases hv; rfl) (Nat.le_of_ble_eq_true rfl) rfl
  · cases hg
theorem gc_rk_X12_isLesson : cl_X12_isLesson.all (gb_rk gb_flX12 gb_slX12 gb_nlX12 gb_llX12 gb_tlX12 cX12_isLesson) = true := by decide +kernel
theorem gc_ck_X12_isLesson : cl_X12_isLesson.all (gc_ck gb_lkX12 gb_lnX12 [10] 1) = true := by decide +kernel
theorem gm_129 (hl : l.stackTraces = false) : gc_MM l D cA ad A adV 129 := by
  refine ⟨gb_T129, fun h => absurd h (by decide +kernel), fun as σ o hg => ?_⟩
  have hM : ∀ mid ∈ ([10] : List Nat), gc_MM l D cA ad A adV mid := (List.forall_mem_cons.mpr ⟨gm_10 hl, fun _ h => nomatch h⟩)
  replace hg : c_X12_isLesson as gaSH σ some = some o := hg
  unfold c_X12_isLesson at hg
  split at hg
  · skip
    rename_i r0 a
    obtain ⟨hb, hg⟩ := gc_bif hg
    obtain rfl := Nat.eq_of_beq_eq_true hb
    obtain rfl := Option.some.inj hg
    exact gc_metP (maxL := 2) (lf := true) hl gc_pnX12 rfl gb_oX12 gc_rk_X12_isLesson gb_nX12 hM gc_ck_X12_isLesson (t_X12_isLesson a σ _ (e_X12_isLesson a σ)) gd_hoI rfl (fun v hv => by cases hv; exact Or.inr ⟨rfl, z_X12_isLesson a σ⟩) (Nat.le_of_ble_eq_true rfl) rfl
  · cases hg
theorem gc_rk_X12_isRoom : cl_X12_isRoom.all (gb_rk gb_flX12 gb_slX12 gb_nlX12 gb_llX12 gb_tlX12 cX12_isRoom) = true := by decide +kernel
theorem gc_ck_X12_isRoom : cl_X12_isRoom.all (gc_ck gb_lkX12 gb_lnX12 [10] 1) = true := by decide +kernel
theorem gm_131 (hl : l.stackTraces = false) : gc_MM l D cA ad A adV 131 := by
  refine ⟨gb_T131, fun h => absurd h (by decide +kernel), fun as σ o hg => ?_⟩
  have hM : ∀ mid ∈ ([10] : List Nat), gc_MM l D cA ad A adV mid := (List.forall_mem_cons.mpr ⟨gm_10 hl, fun _ h => nomatch h⟩)
  replace hg : c_X12_isRoom as gaSH σ some = some o := hg
  unfold c_X12_isRoom at hg
  split at hg
  · skip
    rename_i r0 a
    obtain ⟨hb, hg⟩ := gc_bif hg
    obtain rfl := Nat.eq_of_beq_eq_true hb
    obtain rfl := Option.some.inj hg
    exact gc_metP (maxL := 2) (lf := true) hl gc_pnX12 rfl gb_oX12 gc_rk_X12_isRoom gb_nX12 hM gc_ck_X12_isRoom (t_X12_isRoom a σ _ (e_X12_isRoom a σ)) gd_hoI rfl (fun v hv => by cases hv; exact Or.inr ⟨rfl, z_X12_isRoom a σ⟩) (Nat.le_of_ble_eq_true rfl) rfl
  · cases hg
theorem gc_rk_X12_reasonForRoom : cl_X12_reasonForRoom.all (gb_rk gb_flX12 gb_slX12 gb_nlX12 gb_llX12 gb_tlX12 cX12_reasonForRoom) = true := by decide +kernel
theorem gc_ck_X12_reasonForRoom : cl_X12_reasonForRoom.all (gc_ck gb_lkX12 gb_lnX12 [132] 1) = true := by decide +kernel
theorem gm_133 (hl : l.stackTraces = false) : gc_MM l D cA ad A adV 133 := by
  refine ⟨gb_T133, fun h => absurd h (by decide +kernel), fun as σ o hg => ?_⟩
  have hM : ∀ mid ∈ ([132] : List Nat), gc_MM l D cA ad A adV mid := (List.forall_mem_cons.mpr ⟨gm_132 hl, fun _ h => nomatch h⟩)
  replace hg : c_X12_reasonForRoom as gaSH σ some = some o := hg
  unfold c_X12_reasonForRoom at hg
  split at hg
  · skip
    rename_i r0 a b
    obtain ⟨hb, hg⟩ := gc_bif hg
    obtain rfl := Nat.eq_of_beq_eq_true hb
    obtain ⟨q, hq, hg⟩ := gc_bind hg
    obtain rfl := Option.some.inj hg
    exact gc_metP (maxL := 3) (lf := true) hl gc_pnX12 rfl gb_oX12 gc_rk_X12_reasonForRoom gb_nX12 hM gc_ck_X12_reasonForRoom (t_X12_reasonForRoom a b σ _ hq) gd_hoI rfl (fun v hv => by cases hv; exact Or.inl rfl) (Nat.le_of_ble_eq_true rfl) rfl
  · cases hg
theorem gc_rk_X12_isSlot : cl_X12_isSlot.all (gb_rk gb_flX12 gb_slX12 gb_nlX12 gb_llX12 gb_tlX12 cX12_isSlot) = true := by decide +kernel
theorem gc_ck_X12_isSlot : cl_X12_isSlot.all (gc_ck gb_lkX12 gb_lnX12 [10, 134] 1) = true := by decide +kernel
theorem gm_135 (hl : l.stackTraces = false) : gc_MM l D cA ad A adV 135 := by
  refine ⟨gb_T135, fun h => absurd h (by decide +kernel), fun as σ o hg => ?_⟩
  have hM : ∀ mid ∈ ([10, 134] : List Nat), gc_MM l D cA ad A adV mid := (List.forall_mem_cons.mpr ⟨gm_10 hl, List.forall_mem_cons.mpr ⟨gm_134 hl, fun _ h => nomatch h⟩⟩)
  replace hg : c_X12_isSlot as gaSH σ some = some o := hg
  unfold c_X12_isSlot at hg
  split at hg
  · skip
    rename_i r0 a
    obtain ⟨hb, hg⟩ := gc_bif hg
    obtain rfl := Nat.eq_of_beq_eq_true hb
    obtain rfl := Option.some.inj hg
    exact gc_metP (maxL := 2) (lf := true) hl gc_pnX12 rfl gb_oX12 gc_rk_X12_isSlot gb_nX12 hM gc_ck_X12_isSlot (t_X12_isSlot a σ _ (e_X12_isSlot a σ)) gd_hoI rfl (fun v hv => by cases hv; exact Or.inr ⟨rfl, z_X12_isSlot a σ⟩) (Nat.le_of_ble_eq_true rfl) rfl
  · cases hg
theorem gc_rk_X12_ofTeacher : cl_X12_ofTeacher.all (gb_rk gb_flX12 gb_slX12 gb_nlX12 gb_llX12 gb_tlX12 cX12_ofTeacher) = true := by decide +kernel
theorem gc_ck_X12_ofTeacher : cl_X12_ofTeacher.all (gc_ck gb_lkX12 gb_lnX12 [132] 1) = true := by decide +kernel
theorem gm_137 (hl : l.stackTraces = false) : gc_MM l D cA ad A adV 137 := by
  refine ⟨gb_T137, fun h => absurd h (by decide +kernel), fun as σ o hg => ?_⟩
  have hM : ∀ mid ∈ ([132] : List Nat), gc_MM l D cA ad A adV mid := (List.forall_mem_cons.mpr ⟨gm_132 hl, fun _ h => nomatch h⟩)
  replace hg : c_X12_ofTeacher as gaSH σ some = some o := hg
  unfold c_X12_ofTeacher at hg
  split at hg
  · skip
    rename_i r0 a b
    obtain ⟨hb, hg⟩ := gc_bif hg
    obtain rfl := Nat.eq_of_beq_eq_true hb
    obtain ⟨q, hq, hg⟩ := gc_bind hg
    obtain rfl := Option.some.inj hg
    exact gc_metP (maxL := 3) (lf := true) hl gc_pnX12 rfl gb_oX12 gc_rk_X12_ofTeacher gb_nX12 hM gc_ck_X12_ofTeacher (t_X12_ofTeacher a b σ _ hq) gd_hoI rfl (fun v hv => by cases hv; exact Or.inl rfl) (Nat.le_of_ble_eq_true rfl) rfl
  · cases hg
theorem gc_rk_X12_isAbsent : cl_X12_isAbsent.all (gb_rk gb_flX12 gb_slX12 gb_nlX12 gb_llX12 gb_tlX12 cX12_isAbsent) = true := by decide +kernel
theorem gc_ck_X12_isAbsent : cl_X12_isAbsent.all (gc_ck gb_lkX12 gb_lnX12 [69, 138] 1) = true := by decide +kernel
theorem gm_139 (hl : l.stackTraces = false) : gc_MM l D cA ad A adV 139 := by
  refine ⟨gb_T139, fun h => absurd h (by decide +kernel), fun as σ o hg => ?_⟩
  have hM : ∀ mid ∈ ([69, 138] : List Nat), gc_MM l D cA ad A adV mid := (List.forall_mem_cons.mpr ⟨gm_69 hl, List.forall_mem_cons.mpr ⟨gm_138 hl, fun _ h => nomatch h⟩⟩)
  replace hg : c_X12_isAbsent as gaSH σ some = some o := hg
  unfold c_X12_isAbsent at hg
  split at hg
  · skip
    rename_i r0 a b
    obtain ⟨hb, hg⟩ := gc_bif hg
    obtain rfl := Nat.eq_of_beq_eq_true hb
    obtain ⟨q, hq, hg⟩ := gc_bind hg
    obtain rfl := Option.some.inj hg
    exact gc_metP (maxL := 3) (lf := true) hl gc_pnX12 rfl gb_oX12 gc_rk_X12_isAbsent gb_nX12 hM gc_ck_X12_isAbsent (t_X12_isAbsent a b σ _ hq) gd_hoI rfl (fun v hv => by cases hv; exact Or.inr ⟨rfl, z_X12_isAbsent a b σ _ hq⟩) (Nat.le_of_ble_eq_true rfl) rfl
  · cases hg
theorem gc_rk_X12_isElsewhere : cl_X12_isElsewhere.all (gb_rk gb_flX12 gb_slX12 gb_nlX12 gb_llX12 gb_tlX12 cX12_isElsewhere) = true := by decide +kernel
theorem gc_ck_X12_isElsewhere : cl_X12_isElsewhere.all (gc_ck gb_lkX12 gb_lnX12 [132] 1) = true := by decide +kernel
theorem gm_141 (hl : l.stackTraces = false) : gc_MM l D cA ad A adV 141 := by
  refine ⟨gb_T141, fun h => absurd h (by decide +kernel), fun as σ o hg => ?_⟩
  have hM : ∀ mid ∈ ([132] : List Nat), gc_MM l D cA ad A adV mid := (List.forall_mem_cons.mpr ⟨gm_132 hl, fun _ h => nomatch h⟩)
  replace hg : c_X12_isElsewhere as gaSH σ some = some o := hg
  unfold c_X12_isElsewhere at hg
  split at hg
  · skip
    rename_i r0 a b c
    obtain ⟨hb, hg⟩ := gc_bif hg
    obtain rfl := Nat.eq_of_beq_eq_true hb
    obtain ⟨q, hq, hg⟩ := gc_bind hg
    obtain rfl := Option.some.inj hg
    exact gc_metP (maxL := 4) (lf := true) hl gc_pnX12 rfl gb_oX12 gc_rk_X12_isElsewhere gb_nX12 hM gc_ck_X12_isElsewhere (t_X12_isElsewhere a b c σ _ hq) gd_hoI rfl (fun v hv => by cases hv; exact Or.inr ⟨rfl, z_X12_isElsewhere a b c σ _ hq⟩) (Nat.le_of_ble_eq_true rfl) rfl
  · cases hg
theorem gc_rk_X12_isQualified : cl_X12_isQualified.all (gb_rk gb_flX12 gb_slX12 gb_nlX12 gb_llX12 gb_tlX12 cX12_isQualified) = true := by decide +kernel
theorem gc_ck_X12_isQualified : cl_X12_isQualified.all (gc_ck gb_lkX12 gb_lnX12 [69] 1) = true := by decide +kernel
theorem gm_143 (hl : l.stackTraces = false) : gc_MM l D cA ad A adV 143 := by
  refine ⟨gb_T143, fun h => absurd h (by decide +kernel), fun as σ o hg => ?_⟩
  have hM : ∀ mid ∈ ([69] : List Nat), gc_MM l D cA ad A adV mid := (List.forall_mem_cons.mpr ⟨gm_69 hl, fun _ h => nomatch h⟩)
  replace hg : c_X12_isQualified as gaSH σ some = some o := hg
  unfold c_X12_isQualified at hg
  split at hg
  · skip
    rename_i r0 a b
    obtain ⟨hb, hg⟩ := gc_bif hg
    obtain rfl := Nat.eq_of_beq_eq_true hb
    obtain ⟨q, hq, hg⟩ := gc_bind hg
    obtain rfl := Option.some.inj hg
    exact gc_metP (maxL := 3) (lf := true) hl gc_pnX12 rfl gb_oX12 gc_rk_X12_isQualified gb_nX12 hM gc_ck_X12_isQualified (t_X12_isQualified a b σ _ hq) gd_hoI rfl (fun v hv => by cases hv; exact Or.inr ⟨rfl, z_X12_isQualified a b σ _ hq⟩) (Nat.le_of_ble_eq_true rfl) rfl
  · cases hg
theorem gc_rk_X12_isTaught : cl_X12_isTaught.all (gb_rk gb_flX12 gb_slX12 gb_nlX12 gb_llX12 gb_tlX12 cX12_isTaught) = true := by decide +kernel
theorem gc_ck_X12_isTaught : cl_X12_isTaught.all (gc_ck gb_lkX12 gb_lnX12 [130] 1) = true := by decide +kernel
theorem gm_145 (hl : l.stackTraces = false) : gc_MM l D cA ad A adV 145 := by
  refine ⟨gb_T145, fun h => absurd h (by decide +kernel), fun as σ o hg => ?_⟩
  have hM : ∀ mid ∈ ([130] : List Nat), gc_MM l D cA ad A adV mid := (List.forall_mem_cons.mpr ⟨gm_130 hl, fun _ h => nomatch h⟩)
  replace hg : c_X12_isTaught as gaSH σ some = some o := hg
  unfold c_X12_isTaught at hg
  split at hg
  · skip
    rename_i r0 a
    obtain ⟨hb, hg⟩ := gc_bif hg
    obtain rfl := Nat.eq_of_beq_eq_true hb
    obtain ⟨q, hq, hg⟩ := gc_bind hg
    obtain rfl := Option.some.inj hg
    exact gc_metP (maxL := 2) (lf := true) hl gc_pnX12 rfl gb_oX12 gc_rk_X12_isTaught gb_nX12 hM gc_ck_X12_isTaught (t_X12_isTaught a σ _ hq) gd_hoI rfl (fun v hv => by cases hv; exact Or.inr ⟨rfl, z_X12_isTaught a σ _ hq⟩) (Nat.le_of_ble_eq_true rfl) rfl
  · cases hg
theorem gc_rk_X12_isTeacher : cl_X12_isTeacher.all (gb_rk gb_flX12 gb_slX12 gb_nlX12 gb_llX12 gb_tlX12 cX12_isTeacher) = true := by decide +kernel
theorem gc_ck_X12_isTeacher : cl_X12_isTeacher.all (gc_ck gb_lkX12 gb_lnX12 [10] 1) = true := by decide +kernel
theorem gm_154 (hl : l.stackTraces = false) : gc_MM l D cA ad A adV 154 := by
  refine ⟨gb_T154, fun h => absurd h (by decide +kernel), fun as σ o hg => ?_⟩
  have hM : ∀ mid ∈ ([10] : List Nat), gc_MM l D cA ad A adV mid := (List.forall_mem_cons.mpr ⟨gm_10 hl, fun _ h => nomatch h⟩)
  replace hg : c_X12_isTeacher as gaSH σ some = some o := hg
  unfold c_X12_isTeacher at hg
  split at hg
  · skip
    rename_i r0 a
    obtain ⟨hb, hg⟩ := gc_bif hg
    obtain rfl := Nat.eq_of_beq_eq_true hb
    obtain rfl := Option.some.inj hg
    exact gc_metP (maxL := 2) (lf := true) hl gc_pnX12 rfl gb_oX12 gc_rk_X12_isTeacher gb_nX12 hM gc_ck_X12_isTeacher (t_X12_isTeacher a σ _ (e_X12_isTeacher a σ)) gd_hoI rfl (fun v hv => by cases hv; exact Or.inr ⟨rfl, z_X12_isTeacher a σ⟩) (Nat.le_of_ble_eq_true rfl) rfl
  · cases hg
theorem gc_rk_X12_dutiesOf : cl_X12_dutiesOf.all (gb_rk gb_flX12 gb_slX12 gb_nlX12 gb_llX12 gb_tlX12 cX12_dutiesOf) = true := by decide +kernel
theorem gc_ck_X12_dutiesOf : cl_X12_dutiesOf.all (gc_ck gb_lkX12 gb_lnX12 [138] 1) = true := by decide +kernel
theorem gm_155 (hl : l.stackTraces = false) : gc_MM l D cA ad A adV 155 := by
  refine ⟨gb_T155, fun h => absurd h (by decide +kernel), fun as σ o hg => ?_⟩
  have hM : ∀ mid ∈ ([138] : List Nat), gc_MM l D cA ad A adV mid := (List.forall_mem_cons.mpr ⟨gm_138 hl, fun _ h => nomatch h⟩)
  replace hg : c_X12_dutiesOf as gaSH σ some = some o := hg
  unfold c_X12_dutiesOf at hg
  split at hg
  · skip
    rename_i r0 a b
    obtain ⟨hb, hg⟩ := gc_bif hg
    obtain rfl := Nat.eq_of_beq_eq_true hb
    obtain ⟨q, hq, hg⟩ := gc_bind hg
    obtain rfl := Option.some.inj hg
    exact gc_metP (maxL := 6) (lf := true) hl gc_pnX12 rfl gb_oX12 gc_rk_X12_dutiesOf gb_nX12 hM gc_ck_X12_dutiesOf (t_X12_dutiesOf a b σ _ hq) gd_hoI rfl (fun v hv => by cases hv; exact Or.inl rfl) (Nat.le_of_ble_eq_true rfl) rfl
  · cases hg
theorem gc_rk_X12_isDay : cl_X12_isDay.all (gb_rk gb_flX12 gb_slX12 gb_nlX12 gb_llX12 gb_tlX12 cX12_isDay) = true := by decide +kernel
theorem gc_ck_X12_isDay : cl_X12_isDay.all (gc_ck gb_lkX12 gb_lnX12 [10] 1) = true := by decide +kernel
theorem gm_158 (hl : l.stackTraces = false) : gc_MM l D cA ad A adV 158 := by
  refine ⟨gb_T158, fun h => absurd h (by decide +kernel), fun as σ o hg => ?_⟩
  have hM : ∀ mid ∈ ([10] : List Nat), gc_MM l D cA ad A adV mid := (List.forall_mem_cons.mpr ⟨gm_10 hl, fun _ h => nomatch h⟩)
  replace hg : c_X12_isDay as gaSH σ some = some o := hg
  unfold c_X12_isDay at hg
  split at hg
  · skip
    rename_i r0 a
    obtain ⟨hb, hg⟩ := gc_bif hg
    obtain rfl := Nat.eq_of_beq_eq_true hb
    obtain rfl := Option.some.inj hg
    exact gc_metP (maxL := 2) (lf := true) hl gc_pnX12 rfl gb_oX12 gc_rk_X12_isDay gb_nX12 hM gc_ck_X12_isDay (t_X12_isDay a σ _ (e_X12_isDay a σ)) gd_hoI rfl (fun v hv => by cases hv; exact Or.inr ⟨rfl, z_X12_isDay a σ⟩) (Nat.le_of_ble_eq_true rfl) rfl
  · cases hg
theorem gc_rk_X12_absents : cl_X12_absents.all (gb_rk gb_flX12 gb_slX12 gb_nlX12 gb_llX12 gb_tlX12 cX12_absents) = true := by decide +kernel
theorem gc_ck_X12_absents : cl_X12_absents.all (gc_ck gb_lkX12 gb_lnX12 [138, 160] 1) = true := by decide +kernel
theorem gm_165 (hl : l.stackTraces = false) : gc_MM l D cA ad A adV 165 := by
  refine ⟨gb_T165, fun h => absurd h (by decide +kernel), fun as σ o hg => ?_⟩
  have hM : ∀ mid ∈ ([138, 160] : List Nat), gc_MM l D cA ad A adV mid := (List.forall_mem_cons.mpr ⟨gm_138 hl, List.forall_mem_cons.mpr ⟨gm_160 hl, fun _ h => nomatch h⟩⟩)
  replace hg : c_X12_absents as gaSH σ some = some o := hg
  unfold c_X12_absents at hg
  split at hg
  · skip
    rename_i r0 a b c
    obtain ⟨hb, hg⟩ := gc_bif hg
    obtain rfl := Nat.eq_of_beq_eq_true hb
    obtain ⟨q, hq, hg⟩ := gc_bind hg
    obtain rfl := Option.some.inj hg
    exact gc_metG (maxL := 7) (lf := true) hl gc_pnX12 rfl gb_oX12 gc_rk_X12_absents gb_nX12 hM gc_ck_X12_absents (t_X12_absents a b c σ _ hq) gc_hoI rfl (fun v hv => by cases hv; exact Or.inl rfl) (Nat.le_of_ble_eq_true rfl) rfl
  · cases hg
theorem gc_rk_X12_remember : cl_X12_remember.all (gb_rk gb_flX12 gb_slX12 gb_nlX12 gb_llX12 gb_tlX12 cX12_remember) = true := by decide +kernel
theorem gc_ck_X12_remember : cl_X12_remember.all (gc_ck gb_lkX12 gb_lnX12 [125, 126] 1) = true := by decide +kernel
theorem gm_174 (hl : l.stackTraces = false) : gc_MM l D cA ad A adV 174 := by
  refine ⟨gb_T174, fun h => absurd h (by decide +kernel), fun as σ o hg => ?_⟩
  have hM : ∀ mid ∈ ([125, 126] : List Nat), gc_MM l D cA ad A adV mid := (List.forall_mem_cons.mpr ⟨gm_125 hl, List.forall_mem_cons.mpr ⟨gm_126 hl, fun _ h => nomatch h⟩⟩)
  replace hg : c_X12_remember as gaSH σ some = some o := hg
  unfold c_X12_remember at hg
  split at hg
  · skip
    rename_i r0
    obtain ⟨hb, hg⟩ := gc_bif hg
    obtain rfl := Nat.eq_of_beq_eq_true hb
    obtain ⟨q, hq, hg⟩ := gc_bind hg
    obtain rfl := Option.some.inj hg
    exact gc_metG (maxL := 1) (lf := true) hl gc_pnX12 rfl gb_oX12 gc_rk_X12_remember gb_nX12 hM gc_ck_X12_remember (t_X12_remember σ _ hq) gc_hoV rfl (fun v hv => by cases hv; rfl) (Nat.le_of_ble_eq_true rfl) rfl
  · cases hg
theorem gc_rk_X12_differences : cl_X12_differences.all (gb_rk gb_flX12 gb_slX12 gb_nlX12 gb_llX12 gb_tlX12 cX12_differences) = true := by decide +kernel
theorem gc_ck_X12_differences : cl_X12_differences.all (gc_ck gb_lkX12 gb_lnX12 [189] 1) = true := by decide +kernel
theorem gm_190 (hl : l.stackTraces = false) : gc_MM l D cA ad A adV 190 := by
  refine ⟨gb_T190, fun h => absurd h (by decide +kernel), fun as σ o hg => ?_⟩
  have hM : ∀ mid ∈ ([189] : List Nat), gc_MM l D cA ad A adV mid := (List.forall_mem_cons.mpr ⟨gm_189 hl, fun _ h => nomatch h⟩)
  replace hg : c_X12_differences as gaSH σ some = some o := hg
  unfold c_X12_differences at hg
  split at hg
  · skip
    rename_i r0
    obtain ⟨hb, hg⟩ := gc_bif hg
    obtain rfl := Nat.eq_of_beq_eq_true hb
    obtain ⟨q, hq, hg⟩ := gc_bind hg
    obtain rfl := Option.some.inj hg
    exact gc_metP (maxL := 3) (lf := true) hl gc_pnX12 rfl gb_oX12 gc_rk_X12_differences gb_nX12 hM gc_ck_X12_differences (t_X12_differences σ _ hq) gd_hoI rfl (fun v hv => by cases hv; exact Or.inl rfl) (Nat.le_of_ble_eq_true rfl) rfl
  · cases hg
theorem gc_rk_X7_lessonsWith : cl_X7_lessonsWith.all (gb_rk gb_flX7 gb_slX7 gb_nlX7 gb_llX7 gb_tlX7 cX7_lessonsWith) = true := by decide +kernel
theorem gc_ck_X7_lessonsWith : cl_X7_lessonsWith.all (gc_ck gb_lkX7 gb_lnX7 [1] 1) = true := by decide +kernel
theorem gm_204 (hl : l.stackTraces = false) : gc_MM l D cA ad A adV 204 := by
  refine ⟨gb_T204, fun h => absurd h (by decide +kernel), fun as σ o hg => ?_⟩
  have hM : ∀ mid ∈ ([1] : List Nat), gc_MM l D cA ad A adV mid := (List.forall_mem_cons.mpr ⟨gm_1 hl, fun _ h => nomatch h⟩)
  replace hg : c_X7_lessonsWith as gaSH σ some = some o := hg
  unfold c_X7_lessonsWith at hg
  split at hg
  · skip
    rename_i r0 r1 a
    rcases gc_bif2 hg with ⟨hb, hg⟩ | hg
    · skip
      obtain ⟨hb0, hb1⟩ := Bool.and_eq_true_iff.mp hb
      obtain rfl := Nat.eq_of_beq_eq_true hb0
      obtain rfl := Nat.eq_of_beq_eq_true hb1
      obtain ⟨q, hq, hg⟩ := gc_bind hg
      obtain rfl := Option.some.inj hg
      exact gc_metP (maxL := 5) (lf := true) hl gc_pnX7 rfl gb_oX7 gc_rk_X7_lessonsWith gb_nX7 hM gc_ck_X7_lessonsWith (t_X7_lessonsWith_27 a σ _ hq) gd_hoI rfl (fun v hv => by cases hv; exact Or.inl rfl) (Nat.le_of_ble_eq_true rfl) rfl
    · skip
      rcases gc_bif2 hg with ⟨hb, hg⟩ | hg
      · skip
        obtain ⟨hb0, hb1⟩ := Bool.and_eq_true_iff.mp hb
        obtain rfl := Nat.eq_of_beq_eq_true hb0
        obtain rfl := Nat.eq_of_beq_eq_true hb1
        obtain ⟨q, hq, hg⟩ := gc_bind hg
        obtain rfl := Option.some.inj hg
        exact gc_metP (maxL := 5) (lf := true) hl gc_pnX7 rfl gb_oX7 gc_rk_X7_lessonsWith gb_nX7 hM gc_ck_X7_lessonsWith (t_X7_lessonsWith_23 a σ _ hq) gd_hoI rfl (fun v hv => by cases hv; exact Or.inl rfl) (Nat.le_of_ble_eq_true rfl) rfl
      · skip
        rcases gc_bif2 hg with ⟨hb, hg⟩ | hg
        · skip
          obtain ⟨hb0, hb1⟩ := Bool.and_eq_true_iff.mp hb
          obtain rfl := Nat.eq_of_beq_eq_true hb0
          obtain rfl := Nat.eq_of_beq_eq_true hb1
          obtain ⟨q, hq, hg⟩ := gc_bind hg
          obtain rfl := Option.some.inj hg
          exact gc_metP (maxL := 5) (lf := true) hl gc_pnX7 rfl gb_oX7 gc_rk_X7_lessonsWith gb_nX7 hM gc_ck_X7_lessonsWith (t_X7_lessonsWith_16 a σ _ hq) gd_hoI rfl (fun v hv => by cases hv; exact Or.inl rfl) (Nat.le_of_ble_eq_true rfl) rfl
        · skip
          rcases gc_bif2 hg with ⟨hb, hg⟩ | hg
          · skip
            obtain ⟨hb0, hb1⟩ := Bool.and_eq_true_iff.mp hb
            obtain rfl := Nat.eq_of_beq_eq_true hb0
            obtain rfl := Nat.eq_of_beq_eq_true hb1
            obtain ⟨q, hq, hg⟩ := gc_bind hg
            obtain rfl := Option.some.inj hg
            exact gc_metP (maxL := 5) (lf := true) hl gc_pnX7 rfl gb_oX7 gc_rk_X7_lessonsWith gb_nX7 hM gc_ck_X7_lessonsWith (t_X7_lessonsWith_25 a σ _ hq) gd_hoI rfl (fun v hv => by cases hv; exact Or.inl rfl) (Nat.le_of_ble_eq_true rfl) rfl
          · skip
            obtain ⟨hb, hg⟩ := gc_bif hg
            obtain ⟨hb0, hb1⟩ := Bool.and_eq_true_iff.mp hb
            obtain rfl := Nat.eq_of_beq_eq_true hb0
            obtain rfl := Nat.eq_of_beq_eq_true hb1
            obtain ⟨q, hq, hg⟩ := gc_bind hg
            obtain rfl := Option.some.inj hg
            exact gc_metP (maxL := 5) (lf := true) hl gc_pnX7 rfl gb_oX7 gc_rk_X7_lessonsWith gb_nX7 hM gc_ck_X7_lessonsWith (t_X7_lessonsWith_12 a σ _ hq) gd_hoI rfl (fun v hv => by cases hv; exact Or.inl rfl) (Nat.le_of_ble_eq_true rfl) rfl
  · cases hg
theorem gc_rk_X12_openMany : cl_X12_openMany.all (gb_rk gb_flX12 gb_slX12 gb_nlX12 gb_llX12 gb_tlX12 cX12_openMany) = true := by decide +kernel
theorem gc_ck_X12_openMany : cl_X12_openMany.all (gc_ck gb_lkX12 gb_lnX12 [130] 1) = true := by decide +kernel
theorem gm_208 (hl : l.stackTraces = false) : gc_MM l D cA ad A adV 208 := by
  refine ⟨gb_T208, fun h => absurd h (by decide +kernel), fun as σ o hg => ?_⟩
  have hM : ∀ mid ∈ ([130] : List Nat), gc_MM l D cA ad A adV mid := (List.forall_mem_cons.mpr ⟨gm_130 hl, fun _ h => nomatch h⟩)
  replace hg : c_X12_openMany as gaSH σ some = some o := hg
  unfold c_X12_openMany at hg
  split at hg
  · skip
    rename_i r0
    obtain ⟨hb, hg⟩ := gc_bif hg
    obtain rfl := Nat.eq_of_beq_eq_true hb
    obtain ⟨q, hq, hg⟩ := gc_bind hg
    obtain rfl := Option.some.inj hg
    exact gc_metP (maxL := 3) (lf := true) hl gc_pnX12 rfl gb_oX12 gc_rk_X12_openMany gb_nX12 hM gc_ck_X12_openMany (t_X12_openMany σ _ hq) gd_hoI rfl (fun v hv => by cases hv; exact Or.inl rfl) (Nat.le_of_ble_eq_true rfl) rfl
  · cases hg
theorem gc_rk_X3_taughtBy : cl_X3_taughtBy.all (gb_rk gb_flX3 gb_slX3 gb_nlX3 gb_llX3 gb_tlX3 cX3_taughtBy) = true := by decide +kernel
theorem gc_ck_X3_taughtBy : cl_X3_taughtBy.all (gc_ck gb_lkX3 gb_lnX3 [1] 1) = true := by decide +kernel
theorem gm_211 (hl : l.stackTraces = false) : gc_MM l D cA ad A adV 211 := by
  refine ⟨gb_T211, fun h => absurd h (by decide +kernel), fun as σ o hg => ?_⟩
  have hM : ∀ mid ∈ ([1] : List Nat), gc_MM l D cA ad A adV mid := (List.forall_mem_cons.mpr ⟨gm_1 hl, fun _ h => nomatch h⟩)
  replace hg : c_X3_taughtBy as gaSH σ some = some o := hg
  unfold c_X3_taughtBy at hg
  split at hg
  · skip
    rename_i r0 a
    obtain ⟨hb, hg⟩ := gc_bif hg
    obtain rfl := Nat.eq_of_beq_eq_true hb
    obtain ⟨q, hq, hg⟩ := gc_bind hg
    obtain rfl := Option.some.inj hg
    exact gc_metP (maxL := 4) (lf := true) hl gc_pnX3 rfl gb_oX3 gc_rk_X3_taughtBy gb_nX3 hM gc_ck_X3_taughtBy (t_X3_taughtBy a σ _ hq) gd_hoI rfl (fun v hv => by cases hv; exact Or.inl rfl) (Nat.le_of_ble_eq_true rfl) rfl
  · cases hg
theorem gc_rk_X12_subject : cl_X12_subject.all (gb_rk gb_flX12 gb_slX12 gb_nlX12 gb_llX12 gb_tlX12 cX12_subject) = true := by decide +kernel
theorem gc_ck_X12_subject : cl_X12_subject.all (gc_ck gb_lkX12 gb_lnX12 [10, 69, 173] 1) = true := by decide +kernel
theorem gm_214 (hl : l.stackTraces = false) : gc_MM l D cA ad A adV 214 := by
  refine ⟨gb_T214, fun h => absurd h (by decide +kernel), fun as σ o hg => ?_⟩
  have hM : ∀ mid ∈ ([10, 69, 173] : List Nat), gc_MM l D cA ad A adV mid := (List.forall_mem_cons.mpr ⟨gm_10 hl, List.forall_mem_cons.mpr ⟨gm_69 hl, List.forall_mem_cons.mpr ⟨gm_173 hl, fun _ h => nomatch h⟩⟩⟩)
  replace hg : c_X12_subject as gaSH σ some = some o := hg
  unfold c_X12_subject at hg
  split at hg
  · skip
    rename_i r0 a b
    obtain ⟨hb, hg⟩ := gc_bif hg
    obtain rfl := Nat.eq_of_beq_eq_true hb
    obtain ⟨q, hq, hg⟩ := gc_bind hg
    obtain rfl := Option.some.inj hg
    exact gc_metG (maxL := 6) (lf := true) hl gc_pnX12 rfl gb_oX12 gc_rk_X12_subject gb_nX12 hM gc_ck_X12_subject (t_X12_subject a b σ _ hq) gc_hoI rfl (fun v hv => by cases hv; exact Or.inl rfl) (Nat.le_of_ble_eq_true rfl) rfl
  · cases hg
theorem gc_rk_X12_isClass : cl_X12_isClass.all (gb_rk gb_flX12 gb_slX12 gb_nlX12 gb_llX12 gb_tlX12 cX12_isClass) = true := by decide +kernel
theorem gc_ck_X12_isClass : cl_X12_isClass.all (gc_ck gb_lkX12 gb_lnX12 [10] 1) = true := by decide +kernel
theorem gm_215 (hl : l.stackTraces = false) : gc_MM l D cA ad A adV 215 := by
  refine ⟨gb_T215, fun h => absurd h (by decide +kernel), fun as σ o hg => ?_⟩
  have hM : ∀ mid ∈ ([10] : List Nat), gc_MM l D cA ad A adV mid := (List.forall_mem_cons.mpr ⟨gm_10 hl, fun _ h => nomatch h⟩)
  replace hg : c_X12_isClass as gaSH σ some = some o := hg
  unfold c_X12_isClass at hg
  split at hg
  · skip
    rename_i r0 a
    obtain ⟨hb, hg⟩ := gc_bif hg
    obtain rfl := Nat.eq_of_beq_eq_true hb
    obtain rfl := Option.some.inj hg
    exact gc_metP (maxL := 2) (lf := true) hl gc_pnX12 rfl gb_oX12 gc_rk_X12_isClass gb_nX12 hM gc_ck_X12_isClass (t_X12_isClass a σ _ (e_X12_isClass a σ)) gd_hoI rfl (fun v hv => by cases hv; exact Or.inr ⟨rfl, z_X12_isClass a σ⟩) (Nat.le_of_ble_eq_true rfl) rfl
  · cases hg
theorem gc_rk_X12_lessonAt : cl_X12_lessonAt.all (gb_rk gb_flX12 gb_slX12 gb_nlX12 gb_llX12 gb_tlX12 cX12_lessonAt) = true := by decide +kernel
theorem gc_ck_X12_lessonAt : cl_X12_lessonAt.all (gc_ck gb_lkX12 gb_lnX12 [130, 189] 1) = true := by decide +kernel
theorem gm_221 (hl : l.stackTraces = false) : gc_MM l D cA ad A adV 221 := by
  refine ⟨gb_T221, fun h => absurd h (by decide +kernel), fun as σ o hg => ?_⟩
  have hM : ∀ mid ∈ ([130, 189] : List Nat), gc_MM l D cA ad A adV mid := (List.forall_mem_cons.mpr ⟨gm_130 hl, List.forall_mem_cons.mpr ⟨gm_189 hl, fun _ h => nomatch h⟩⟩)
  replace hg : c_X12_lessonAt as gaSH σ some = some o := hg
  unfold c_X12_lessonAt at hg
  split at hg
  · skip
    rename_i r0 a b
    obtain ⟨hb, hg⟩ := gc_bif hg
    obtain rfl := Nat.eq_of_beq_eq_true hb
    obtain ⟨q, hq, hg⟩ := gc_bind hg
    obtain rfl := Option.some.inj hg
    exact gc_metP (maxL := 5) (lf := true) hl gc_pnX12 rfl gb_oX12 gc_rk_X12_lessonAt gb_nX12 hM gc_ck_X12_lessonAt (t_X12_lessonAt a b σ _ hq) gd_hoI rfl (fun v hv => by cases hv; exact Or.inl rfl) (Nat.le_of_ble_eq_true rfl) rfl
  · cases hg
theorem gc_rk_X12_gapsIn : cl_X12_gapsIn.all (gb_rk gb_flX12 gb_slX12 gb_nlX12 gb_llX12 gb_tlX12 cX12_gapsIn) = true := by decide +kernel
theorem gc_ck_X12_gapsIn : cl_X12_gapsIn.all (gc_ck gb_lkX12 gb_lnX12 [69] 1) = true := by decide +kernel
theorem gm_225 (hl : l.stackTraces = false) : gc_MM l D cA ad A adV 225 := by
  refine ⟨gb_T225, fun h => absurd h (by decide +kernel), fun as σ o hg => ?_⟩
  have hM : ∀ mid ∈ ([69] : List Nat), gc_MM l D cA ad A adV mid := (List.forall_mem_cons.mpr ⟨gm_69 hl, fun _ h => nomatch h⟩)
  replace hg : c_X12_gapsIn as gaSH σ some = some o := hg
  unfold c_X12_gapsIn at hg
  split at hg
  · skip
    rename_i r0 a
    obtain ⟨hb, hg⟩ := gc_bif hg
    obtain rfl := Nat.eq_of_beq_eq_true hb
    obtain ⟨q, hq, hg⟩ := gc_bind hg
    obtain rfl := Option.some.inj hg
    exact gc_metP (maxL := 4) (lf := true) hl gc_pnX12 rfl gb_oX12 gc_rk_X12_gapsIn gb_nX12 hM gc_ck_X12_gapsIn (t_X12_gapsIn a σ _ hq) gd_hoI rfl (fun v hv => by cases hv; exact Or.inl rfl) (Nat.le_of_ble_eq_true rfl) rfl
  · cases hg
theorem gc_rk_X5_append : cl_X5_append.all (gb_rk gb_flX5 gb_slX5 gb_nlX5 gb_llX5 gb_tlX5 cX5_append) = true := by decide +kernel
theorem gc_ck_X5_append : cl_X5_append.all (gc_ck gb_lkX5 gb_lnX5 [2] 1) = true := by decide +kernel
theorem gm_234 (hl : l.stackTraces = false) : gc_MM l D cA ad A adV 234 := by
  refine ⟨gb_T234, fun h => absurd h (by decide +kernel), fun as σ o hg => ?_⟩
  have hM : ∀ mid ∈ ([2] : List Nat), gc_MM l D cA ad A adV mid := (List.forall_mem_cons.mpr ⟨gm_2 hl, fun _ h => nomatch h⟩)
  replace hg : c_X5_append as gaSH σ some = some o := hg
  unfold c_X5_append at hg
  split at hg
  · skip
    rename_i r0 a
    obtain ⟨hb, hg⟩ := gc_bif hg
    obtain rfl := Nat.eq_of_beq_eq_true hb
    obtain rfl := Option.some.inj hg
    exact gc_metG (maxL := 2) (lf := true) hl gc_pnX5 rfl gb_oX5 gc_rk_X5_append gb_nX5 hM gc_ck_X5_append (t_X5_append a σ _ (e_X5_append a σ)) gc_hoV rfl (fun v hv => by cases hv; rfl) (Nat.le_of_ble_eq_true rfl) rfl
  · cases hg
theorem gc_rk_X12_printLesson : cl_X12_printLesson.all (gb_rk gb_flX12 gb_slX12 gb_nlX12 gb_llX12 gb_tlX12 cX12_printLesson) = true := by decide +kernel
theorem gc_ck_X12_printLesson : cl_X12_printLesson.all (gc_ck gb_lkX12 gb_lnX12 [130, 237] 1) = true := by decide +kernel
theorem gm_238 (hl : l.stackTraces = false) : gc_MM l D cA ad A adV 238 := by
  refine ⟨gb_T238, fun h => absurd h (by decide +kernel), fun as σ o hg => ?_⟩
  have hM : ∀ mid ∈ ([130, 237] : List Nat), gc_MM l D cA ad A adV mid := (List.forall_mem_cons.mpr ⟨gm_130 hl, List.forall_mem_cons.mpr ⟨gm_237 hl, fun _ h => nomatch h⟩⟩)
  replace hg : c_X12_printLesson as gaSH σ some = some o := hg
  unfold c_X12_printLesson at hg
  split at hg
  · skip
    rename_i r0 a
    obtain ⟨hb, hg⟩ := gc_bif hg
    obtain rfl := Nat.eq_of_beq_eq_true hb
    obtain ⟨q, hq, hg⟩ := gc_bind hg
    obtain rfl := Option.some.inj hg
    exact gc_metG (maxL := 2) (lf := true) hl gc_pnX12 rfl gb_oX12 gc_rk_X12_printLesson gb_nX12 hM gc_ck_X12_printLesson (t_X12_printLesson a σ _ hq) gc_hoV rfl (fun v hv => by cases hv; rfl) (Nat.le_of_ble_eq_true rfl) rfl
  · cases hg
theorem gc_rk_X12_reportByte : cl_X12_reportByte.all (gb_rk gb_flX12 gb_slX12 gb_nlX12 gb_llX12 gb_tlX12 cX12_reportByte) = true := by decide +kernel
theorem gc_ck_X12_reportByte : cl_X12_reportByte.all (gc_ck gb_lkX12 gb_lnX12 [10, 173] 1) = true := by decide +kernel
theorem gm_240 (hl : l.stackTraces = false) : gc_MM l D cA ad A adV 240 := by
  refine ⟨gb_T240, fun h => absurd h (by decide +kernel), fun as σ o hg => ?_⟩
  have hM : ∀ mid ∈ ([10, 173] : List Nat), gc_MM l D cA ad A adV mid := (List.forall_mem_cons.mpr ⟨gm_10 hl, List.forall_mem_cons.mpr ⟨gm_173 hl, fun _ h => nomatch h⟩⟩)
  replace hg : c_X12_reportByte as gaSH σ some = some o := hg
  unfold c_X12_reportByte at hg
  split at hg
  · skip
    rename_i r0 a
    obtain ⟨hb, hg⟩ := gc_bif hg
    obtain rfl := Nat.eq_of_beq_eq_true hb
    obtain ⟨q, hq, hg⟩ := gc_bind hg
    obtain rfl := Option.some.inj hg
    exact gc_metG (maxL := 2) (lf := true) hl gc_pnX12 rfl gb_oX12 gc_rk_X12_reportByte gb_nX12 hM gc_ck_X12_reportByte (t_X12_reportByte a σ _ hq) gc_hoI rfl (fun v hv => by cases hv; exact Or.inl rfl) (Nat.le_of_ble_eq_true rfl) rfl
  · cases hg
theorem gc_rk_X12_undo : cl_X12_undo.all (gb_rk gb_flX12 gb_slX12 gb_nlX12 gb_llX12 gb_tlX12 cX12_undo) = true := by decide +kernel
theorem gc_ck_X12_undo : cl_X12_undo.all (gc_ck gb_lkX12 gb_lnX12 [8] 1) = true := by decide +kernel
theorem gm_242 (hl : l.stackTraces = false) : gc_MM l D cA ad A adV 242 := by
  refine ⟨gb_T242, fun h => absurd h (by decide +kernel), fun as σ o hg => ?_⟩
  have hM : ∀ mid ∈ ([8] : List Nat), gc_MM l D cA ad A adV mid := (List.forall_mem_cons.mpr ⟨gm_8 hl, fun _ h => nomatch h⟩)
  replace hg : c_X12_undo as gaSH σ some = some o := hg
  unfold c_X12_undo at hg
  split at hg
  · skip
    rename_i r0
    obtain ⟨hb, hg⟩ := gc_bif hg
    obtain rfl := Nat.eq_of_beq_eq_true hb
    obtain ⟨q, hq, hg⟩ := gc_bind hg
    obtain rfl := Option.some.inj hg
    exact gc_metG (maxL := 2) (lf := true) hl gc_pnX12 rfl gb_oX12 gc_rk_X12_undo gb_nX12 hM gc_ck_X12_undo (t_X12_undo σ _ hq) gc_hoI rfl (fun v hv => by cases hv; exact Or.inl rfl) (Nat.le_of_ble_eq_true rfl) rfl
  · cases hg
theorem gc_rk_X11_requireTeacher : cl_X11_requireTeacher.all (gb_rk gb_flX11 gb_slX11 gb_nlX11 gb_llX11 gb_tlX11 cX11_requireTeacher) = true := by decide +kernel
theorem gc_ck_X11_requireTeacher : cl_X11_requireTeacher.all (gc_ck gb_lkX11 gb_lnX11 [41] 1) = true := by decide +kernel
theorem gm_402 (hl : l.stackTraces = false) : gc_MM l D cA ad A adV 402 := by
  refine ⟨gb_T402, fun h => absurd h (by decide +kernel), fun as σ o hg => ?_⟩
  have hM : ∀ mid ∈ ([41] : List Nat), gc_MM l D cA ad A adV mid := (List.forall_mem_cons.mpr ⟨gm_41 hl, fun _ h => nomatch h⟩)
  replace hg : c_X11_requireTeacher as gaSH σ some = some o := hg
  unfold c_X11_requireTeacher at hg
  split at hg
  · skip
    rename_i r0 a
    obtain ⟨hb, hg⟩ := gc_bif hg
    obtain rfl := Nat.eq_of_beq_eq_true hb
    have hT := t_X11_requireTeacher a σ _ (e_X11_requireTeacher a σ)
    generalize v_X11_requireTeacher a σ = q at hg hT
    cases q with
    | none =>
      obtain rfl := Option.some.inj hg
      exact gc_metP (maxL := 2) (lf := true) hl gc_pnX11 rfl gb_oX11 gc_rk_X11_requireTeacher gb_nX11 hM gc_ck_X11_requireTeacher (hT) gd_hoVXl rfl (fun v hv => by cases hv; rfl) (Nat.le_of_ble_eq_true rfl) rfl
    | some E =>
      obtain rfl := Option.some.inj hg
      exact gc_metP (maxL := 2) (lf := true) hl gc_pnX11 rfl gb_oX11 gc_rk_X11_requireTeacher gb_nX11 hM gc_ck_X11_requireTeacher (hT) gd_hoVXr rfl (fun v hv => by cases hv) (Nat.le_of_ble_eq_true rfl) rfl
  · cases hg
theorem gc_rk_X11_requireDay : cl_X11_requireDay.all (gb_rk gb_flX11 gb_slX11 gb_nlX11 gb_llX11 gb_tlX11 cX11_requireDay) = true := by decide +kernel
theorem gc_ck_X11_requireDay : cl_X11_requireDay.all (gc_ck gb_lkX11 gb_lnX11 [84] 1) = true := by decide +kernel
theorem gm_403 (hl : l.stackTraces = false) : gc_MM l D cA ad A adV 403 := by
  refine ⟨gb_T403, fun h => absurd h (by decide +kernel), fun as σ o hg => ?_⟩
  have hM : ∀ mid ∈ ([84] : List Nat), gc_MM l D cA ad A adV mid := (List.forall_mem_cons.mpr ⟨gm_84 hl, fun _ h => nomatch h⟩)
  replace hg : c_X11_requireDay as gaSH σ some = some o := hg
  unfold c_X11_requireDay at hg
  split at hg
  · skip
    rename_i r0 a
    obtain ⟨hb, hg⟩ := gc_bif hg
    obtain rfl := Nat.eq_of_beq_eq_true hb
    have hT := t_X11_requireDay a σ _ (e_X11_requireDay a σ)
    generalize v_X11_requireDay a σ = q at hg hT
    cases q with
    | none =>
      obtain rfl := Option.some.inj hg
      exact gc_metP (maxL := 2) (lf := true) hl gc_pnX11 rfl gb_oX11 gc_rk_X11_requireDay gb_nX11 hM gc_ck_X11_requireDay (hT) gd_hoVXl rfl (fun v hv => by cases hv; rfl) (Nat.le_of_ble_eq_true rfl) rfl
    | some E =>
      obtain rfl := Option.some.inj hg
      exact gc_metP (maxL := 2) (lf := true) hl gc_pnX11 rfl gb_oX11 gc_rk_X11_requireDay gb_nX11 hM gc_ck_X11_requireDay (hT) gd_hoVXr rfl (fun v hv => by cases hv) (Nat.le_of_ble_eq_true rfl) rfl
  · cases hg
theorem gc_rk_X11_requireLesson : cl_X11_requireLesson.all (gb_rk gb_flX11 gb_slX11 gb_nlX11 gb_llX11 gb_tlX11 cX11_requireLesson) = true := by decide +kernel
theorem gc_ck_X11_requireLesson : cl_X11_requireLesson.all (gc_ck gb_lkX11 gb_lnX11 [87] 1) = true := by decide +kernel
theorem gm_405 (hl : l.stackTraces = false) : gc_MM l D cA ad A adV 405 := by
  refine ⟨gb_T405, fun h => absurd h (by decide +kernel), fun as σ o hg => ?_⟩
  have hM : ∀ mid ∈ ([87] : List Nat), gc_MM l D cA ad A adV mid := (List.forall_mem_cons.mpr ⟨gm_87 hl, fun _ h => nomatch h⟩)
  replace hg : c_X11_requireLesson as gaSH σ some = some o := hg
  unfold c_X11_requireLesson at hg
  split at hg
  · skip
    rename_i r0 a
    obtain ⟨hb, hg⟩ := gc_bif hg
    obtain rfl := Nat.eq_of_beq_eq_true hb
    have hT := t_X11_requireLesson a σ _ (e_X11_requireLesson a σ)
    generalize v_X11_requireLesson a σ = q at hg hT
    cases q with
    | none =>
      obtain rfl := Option.some.inj hg
      exact gc_metP (maxL := 2) (lf := true) hl gc_pnX11 rfl gb_oX11 gc_rk_X11_requireLesson gb_nX11 hM gc_ck_X11_requireLesson (hT) gd_hoVXl rfl (fun v hv => by cases hv; rfl) (Nat.le_of_ble_eq_true rfl) rfl
    | some E =>
      obtain rfl := Option.some.inj hg
      exact gc_metP (maxL := 2) (lf := true) hl gc_pnX11 rfl gb_oX11 gc_rk_X11_requireLesson gb_nX11 hM gc_ck_X11_requireLesson (hT) gd_hoVXr rfl (fun v hv => by cases hv) (Nat.le_of_ble_eq_true rfl) rfl
  · cases hg
theorem gc_rk_X11_keepUnlessRefused : cl_X11_keepUnlessRefused.all (gb_rk gb_flX11 gb_slX11 gb_nlX11 gb_llX11 gb_tlX11 cX11_keepUnlessRefused) = true := by decide +kernel
theorem gc_ck_X11_keepUnlessRefused : cl_X11_keepUnlessRefused.all (gc_ck gb_lkX11 gb_lnX11 [78] 1) = true := by decide +kernel
theorem gm_406 (hl : l.stackTraces = false) : gc_MM l D cA ad A adV 406 := by
  refine ⟨gb_T406, fun h => absurd h (by decide +kernel), fun as σ o hg => ?_⟩
  have hM : ∀ mid ∈ ([78] : List Nat), gc_MM l D cA ad A adV mid := (List.forall_mem_cons.mpr ⟨gm_78 hl, fun _ h => nomatch h⟩)
  replace hg : c_X11_keepUnlessRefused as gaSH σ some = some o := hg
  unfold c_X11_keepUnlessRefused at hg
  split at hg
  · skip
    rename_i r0 a
    obtain ⟨hb, hg⟩ := gc_bif hg
    obtain rfl := Nat.eq_of_beq_eq_true hb
    obtain ⟨q, hq, hg⟩ := gc_bind hg
    obtain ⟨q, s1⟩ := q
    cases q with
    | none =>
      obtain rfl := Option.some.inj hg
      exact gc_metG (maxL := 2) (lf := true) hl gc_pnX11 rfl gb_oX11 gc_rk_X11_keepUnlessRefused gb_nX11 hM gc_ck_X11_keepUnlessRefused (t_X11_keepUnlessRefused a σ _ hq) gc_hoVXl rfl (fun v hv => by cases hv; rfl) (Nat.le_of_ble_eq_true rfl) rfl
    | some E =>
      obtain rfl := Option.some.inj hg
      exact gc_metG (maxL := 2) (lf := true) hl gc_pnX11 rfl gb_oX11 gc_rk_X11_keepUnlessRefused gb_nX11 hM gc_ck_X11_keepUnlessRefused (t_X11_keepUnlessRefused a σ _ hq) gc_hoVXr rfl (fun v hv => by cases hv) (Nat.le_of_ble_eq_true rfl) rfl
  · cases hg
theorem gc_rk_X11_requireRoom : cl_X11_requireRoom.all (gb_rk gb_flX11 gb_slX11 gb_nlX11 gb_llX11 gb_tlX11 cX11_requireRoom) = true := by decide +kernel
theorem gc_ck_X11_requireRoom : cl_X11_requireRoom.all (gc_ck gb_lkX11 gb_lnX11 [104] 1) = true := by decide +kernel
theorem gm_413 (hl : l.stackTraces = false) : gc_MM l D cA ad A adV 413 := by
  refine ⟨gb_T413, fun h => absurd h (by decide +kernel), fun as σ o hg => ?_⟩
  have hM : ∀ mid ∈ ([104] : List Nat), gc_MM l D cA ad A adV mid := (List.forall_mem_cons.mpr ⟨gm_104 hl, fun _ h => nomatch h⟩)
  replace hg : c_X11_requireRoom as gaSH σ some = some o := hg
  unfold c_X11_requireRoom at hg
  split at hg
  · skip
    rename_i r0 a
    obtain ⟨hb, hg⟩ := gc_bif hg
    obtain rfl := Nat.eq_of_beq_eq_true hb
    have hT := t_X11_requireRoom a σ _ (e_X11_requireRoom a σ)
    generalize v_X11_requireRoom a σ = q at hg hT
    cases q with
    | none =>
      obtain rfl := Option.some.inj hg
      exact gc_metP (maxL := 2) (lf := true) hl gc_pnX11 rfl gb_oX11 gc_rk_X11_requireRoom gb_nX11 hM gc_ck_X11_requireRoom (hT) gd_hoVXl rfl (fun v hv => by cases hv; rfl) (Nat.le_of_ble_eq_true rfl) rfl
    | some E =>
      obtain rfl := Option.some.inj hg
      exact gc_metP (maxL := 2) (lf := true) hl gc_pnX11 rfl gb_oX11 gc_rk_X11_requireRoom gb_nX11 hM gc_ck_X11_requireRoom (hT) gd_hoVXr rfl (fun v hv => by cases hv) (Nat.le_of_ble_eq_true rfl) rfl
  · cases hg
theorem gc_rk_X11_reportByte : cl_X11_reportByte.all (gb_rk gb_flX11 gb_slX11 gb_nlX11 gb_llX11 gb_tlX11 cX11_reportByte) = true := by decide +kernel
theorem gc_ck_X11_reportByte : cl_X11_reportByte.all (gc_ck gb_lkX11 gb_lnX11 [1] 1) = true := by decide +kernel
theorem gm_443 (hl : l.stackTraces = false) : gc_MM l D cA ad A adV 443 := by
  refine ⟨gb_T443, fun h => absurd h (by decide +kernel), fun as σ o hg => ?_⟩
  have hM : ∀ mid ∈ ([1] : List Nat), gc_MM l D cA ad A adV mid := (List.forall_mem_cons.mpr ⟨gm_1 hl, fun _ h => nomatch h⟩)
  replace hg : c_X11_reportByte as gaSH σ some = some o := hg
  unfold c_X11_reportByte at hg
  split at hg
  · skip
    rename_i r0 a
    obtain ⟨hb, hg⟩ := gc_bif hg
    obtain rfl := Nat.eq_of_beq_eq_true hb
    have hT := t_X11_reportByte a σ _ (e_X11_reportByte a σ)
    generalize v_X11_reportByte a σ = q at hg hT
    cases q with
    | inl x =>
      obtain rfl := Option.some.inj hg
      exact gc_metP (maxL := 2) (lf := true) hl gc_pnX11 rfl gb_oX11 gc_rk_X11_reportByte gb_nX11 hM gc_ck_X11_reportByte (hT) gd_hoIXl rfl (fun v hv => by cases hv; exact Or.inl rfl) (Nat.le_of_ble_eq_true rfl) rfl
    | inr E =>
      obtain rfl := Option.some.inj hg
      exact gc_metP (maxL := 2) (lf := true) hl gc_pnX11 rfl gb_oX11 gc_rk_X11_reportByte gb_nX11 hM gc_ck_X11_reportByte (hT) gd_hoIXr rfl (fun v hv => by cases hv) (Nat.le_of_ble_eq_true rfl) rfl
  · cases hg
theorem gc_rk_X10_next : cl_X10_next.all (gb_rk gb_flX10 gb_slX10 gb_nlX10 gb_llX10 gb_tlX10 cX10_next) = true := by decide +kernel
theorem gc_ck_X10_next : cl_X10_next.all (gc_ck gb_lkX10 gb_lnX10 [1, 13, 14, 15, 17, 18] 2) = true := by decide +kernel
theorem gm_19 (hl : l.stackTraces = false) : gc_MM l D cA ad A adV 19 := by
  refine ⟨gb_T19, fun h => absurd h (by decide +kernel), fun as σ o hg => ?_⟩
  have hM : ∀ mid ∈ ([1, 13, 14, 15, 17, 18] : List Nat), gc_MM l D cA ad A adV mid := (List.forall_mem_cons.mpr ⟨gm_1 hl, List.forall_mem_cons.mpr ⟨gm_13 hl, List.forall_mem_cons.mpr ⟨gm_14 hl, List.forall_mem_cons.mpr ⟨gm_15 hl, List.forall_mem_cons.mpr ⟨gm_17 hl, List.forall_mem_cons.mpr ⟨gm_18 hl, fun _ h => nomatch h⟩⟩⟩⟩⟩⟩)
  replace hg : c_X10_next as gaSH σ some = some o := hg
  unfold c_X10_next at hg
  split at hg
  · skip
    rename_i r0
    obtain ⟨hb, hg⟩ := gc_bif hg
    obtain rfl := Nat.eq_of_beq_eq_true hb
    obtain ⟨q, hq, hg⟩ := gc_bind hg
    obtain rfl := Option.some.inj hg
    exact gc_metG (maxL := 2) (lf := true) hl gc_pnX10 rfl gb_oX10 gc_rk_X10_next gb_nX10 hM gc_ck_X10_next (t_X10_next σ _ hq) gc_hoV rfl (fun v hv => by cases hv; rfl) (Nat.le_of_ble_eq_true rfl) rfl
  · cases hg
theorem gc_rk_X8_checkNumber : cl_X8_checkNumber.all (gb_rk gb_flX8 gb_slX8 gb_nlX8 gb_llX8 gb_tlX8 cX8_checkNumber) = true := by decide +kernel
theorem gc_ck_X8_checkNumber : cl_X8_checkNumber.all (gc_ck gb_lkX8 gb_lnX8 [23] 2) = true := by decide +kernel
theorem gm_25 (hl : l.stackTraces = false) : gc_MM l D cA ad A adV 25 := by
  refine ⟨gb_T25, fun h => absurd h (by decide +kernel), fun as σ o hg => ?_⟩
  have hM : ∀ mid ∈ ([23] : List Nat), gc_MM l D cA ad A adV mid := (List.forall_mem_cons.mpr ⟨gm_23 hl, fun _ h => nomatch h⟩)
  replace hg : c_X8_checkNumber as gaSH σ some = some o := hg
  unfold c_X8_checkNumber at hg
  split at hg
  · skip
    rename_i r0 a b
    obtain ⟨hb, hg⟩ := gc_bif hg
    obtain rfl := Nat.eq_of_beq_eq_true hb
    obtain rfl := Option.some.inj hg
    exact gc_metG (maxL := 3) (lf := true) hl gc_pnX8 rfl gb_oX8 gc_rk_X8_checkNumber gb_nX8 hM gc_ck_X8_checkNumber (t_X8_checkNumber a b σ _ (e_X8_checkNumber a b σ)) gc_hoI rfl (fun v hv => by cases hv; exact Or.inr ⟨rfl, z_X8_checkNumber a b σ⟩) (Nat.le_of_ble_eq_true rfl) rfl
  · cases hg
theorem gc_rk_X7_become : cl_X7_become.all (gb_rk gb_flX7 gb_slX7 gb_nlX7 gb_llX7 gb_tlX7 cX7_become) = true := by decide +kernel
theorem gc_ck_X7_become : cl_X7_become.all (gc_ck gb_lkX7 gb_lnX7 [3] 2) = true := by decide +kernel
theorem gm_47 (hl : l.stackTraces = false) : gc_MM l D cA ad A adV 47 := by
  refine ⟨gb_T47, fun h => absurd h (by decide +kernel), fun as σ o hg => ?_⟩
  have hM : ∀ mid ∈ ([3] : List Nat), gc_MM l D cA ad A adV mid := (List.forall_mem_cons.mpr ⟨gm_3 hl, fun _ h => nomatch h⟩)
  replace hg : c_X7_become as gaSH σ some = some o := hg
  unfold c_X7_become at hg
  split at hg
  · skip
    rename_i r0 r1
    obtain ⟨hb, hg⟩ := gc_bif hg
    obtain ⟨hb0, hb1⟩ := Bool.and_eq_true_iff.mp hb
    obtain rfl := Nat.eq_of_beq_eq_true hb0
    obtain rfl := Nat.eq_of_beq_eq_true hb1
    obtain rfl := Option.some.inj hg
    exact gc_metG (maxL := 2) (lf := true) hl gc_pnX7 rfl gb_oX7 gc_rk_X7_become gb_nX7 hM gc_ck_X7_become (t_X7_become_49 σ _ (e_X7_become_49 σ)) gc_hoV rfl (fun v hv => by cases hv; rfl) (Nat.le_of_ble_eq_true rfl) rfl
  · cases hg
theorem gc_rk_X3_isAwayAt : cl_X3_isAwayAt.all (gb_rk gb_flX3 gb_slX3 gb_nlX3 gb_llX3 gb_tlX3 cX3_isAwayAt) = true := by decide +kernel
theorem gc_ck_X3_isAwayAt : cl_X3_isAwayAt.all (gc_ck gb_lkX3 gb_lnX3 [48, 49] 2) = true := by decide +kernel
theorem gm_50 (hl : l.stackTraces = false) : gc_MM l D cA ad A adV 50 := by
  refine ⟨gb_T50, fun h => absurd h (by decide +kernel), fun as σ o hg => ?_⟩
  have hM : ∀ mid ∈ ([48, 49] : List Nat), gc_MM l D cA ad A adV mid := (List.forall_mem_cons.mpr ⟨gm_48 hl, List.forall_mem_cons.mpr ⟨gm_49 hl, fun _ h => nomatch h⟩⟩)
  replace hg : c_X3_isAwayAt as gaSH σ some = some o := hg
  unfold c_X3_isAwayAt at hg
  split at hg
  · skip
    rename_i r0 a b
    obtain ⟨hb, hg⟩ := gc_bif hg
    obtain rfl := Nat.eq_of_beq_eq_true hb
    obtain ⟨q, hq, hg⟩ := gc_bind hg
    obtain rfl := Option.some.inj hg
    exact gc_metP (maxL := 3) (lf := true) hl gc_pnX3 rfl gb_oX3 gc_rk_X3_isAwayAt gb_nX3 hM gc_ck_X3_isAwayAt (t_X3_isAwayAt a b σ _ hq) gd_hoI rfl (fun v hv => by cases hv; exact Or.inr ⟨rfl, z_X3_isAwayAt a b σ _ hq⟩) (Nat.le_of_ble_eq_true rfl) rfl
  · cases hg
theorem gc_rk_X12_next : cl_X12_next.all (gb_rk gb_flX12 gb_slX12 gb_nlX12 gb_llX12 gb_tlX12 cX12_next) = true := by decide +kernel
theorem gc_ck_X12_next : cl_X12_next.all (gc_ck gb_lkX12 gb_lnX12 [55, 56, 57] 2) = true := by decide +kernel
theorem gm_58 (hl : l.stackTraces = false) : gc_MM l D cA ad A adV 58 := by
  refine ⟨gb_T58, fun h => absurd h (by decide +kernel), fun as σ o hg => ?_⟩
  have hM : ∀ mid ∈ ([55, 56, 57] : List Nat), gc_MM l D cA ad A adV mid := (List.forall_mem_cons.mpr ⟨gm_55 hl, List.forall_mem_cons.mpr ⟨gm_56 hl, List.forall_mem_cons.mpr ⟨gm_57 hl, fun _ h => nomatch h⟩⟩⟩)
  replace hg : c_X12_next as gaSH σ some = some o := hg
  unfold c_X12_next at hg
  split at hg
  · skip
    rename_i r0
    obtain ⟨hb, hg⟩ := gc_bif hg
    obtain rfl := Nat.eq_of_beq_eq_true hb
    obtain ⟨q, hq, hg⟩ := gc_bind hg
    obtain rfl := Option.some.inj hg
    exact gc_metG (maxL := 1) (lf := true) hl gc_pnX12 rfl gb_oX12 gc_rk_X12_next gb_nX12 hM gc_ck_X12_next (t_X12_next σ _ hq) gc_hoV rfl (fun v hv => by cases hv; rfl) (Nat.le_of_ble_eq_true rfl) rfl
  · cases hg
theorem gc_rk_X12_see : cl_X12_see.all (gb_rk gb_flX12 gb_slX12 gb_nlX12 gb_llX12 gb_tlX12 cX12_see) = true := by decide +kernel
theorem gc_ck_X12_see : cl_X12_see.all (gc_ck gb_lkX12 gb_lnX12 [10, 57, 62, 64] 2) = true := by decide +kernel
theorem gm_65 (hl : l.stackTraces = false) : gc_MM l D cA ad A adV 65 := by
  refine ⟨gb_T65, fun h => absurd h (by decide +kernel), fun as σ o hg => ?_⟩
  have hM : ∀ mid ∈ ([10, 57, 62, 64] : List Nat), gc_MM l D cA ad A adV mid := (List.forall_mem_cons.mpr ⟨gm_10 hl, List.forall_mem_cons.mpr ⟨gm_57 hl, List.forall_mem_cons.mpr ⟨gm_62 hl, List.forall_mem_cons.mpr ⟨gm_64 hl, fun _ h => nomatch h⟩⟩⟩⟩)
  replace hg : c_X12_see as gaSH σ some = some o := hg
  unfold c_X12_see at hg
  split at hg
  · skip
    rename_i r0 a b
    obtain ⟨hb, hg⟩ := gc_bif hg
    obtain rfl := Nat.eq_of_beq_eq_true hb
    obtain ⟨q, hq, hg⟩ := gc_bind hg
    obtain rfl := Option.some.inj hg
    exact gc_metG (maxL := 3) (lf := true) hl gc_pnX12 rfl gb_oX12 gc_rk_X12_see gb_nX12 hM gc_ck_X12_see (t_X12_see a b σ _ hq) gc_hoI rfl (fun v hv => by cases hv; exact Or.inl rfl) (Nat.le_of_ble_eq_true rfl) rfl
  · cases hg
theorem gc_rk_X2_letBeAbsent : cl_X2_letBeAbsent.all (gb_rk gb_flX2 gb_slX2 gb_nlX2 gb_llX2 gb_tlX2 cX2_letBeAbsent) = true := by decide +kernel
theorem gc_ck_X2_letBeAbsent : cl_X2_letBeAbsent.all (gc_ck gb_lkX2 gb_lnX2 [1, 2, 48, 85] 2) = true := by decide +kernel
theorem gm_86 (hl : l.stackTraces = false) : gc_MM l D cA ad A adV 86 := by
  refine ⟨gb_T86, fun h => absurd h (by decide +kernel), fun as σ o hg => ?_⟩
  have hM : ∀ mid ∈ ([1, 2, 48, 85] : List Nat), gc_MM l D cA ad A adV mid := (List.forall_mem_cons.mpr ⟨gm_1 hl, List.forall_mem_cons.mpr ⟨gm_2 hl, List.forall_mem_cons.mpr ⟨gm_48 hl, List.forall_mem_cons.mpr ⟨gm_85 hl, fun _ h => nomatch h⟩⟩⟩⟩)
  replace hg : c_X2_letBeAbsent as gaSH σ some = some o := hg
  unfold c_X2_letBeAbsent at hg
  split at hg
  · skip
    rename_i r0 a b c
    obtain ⟨hb, hg⟩ := gc_bif hg
    obtain rfl := Nat.eq_of_beq_eq_true hb
    obtain ⟨q, hq, hg⟩ := gc_bind hg
    obtain rfl := Option.some.inj hg
    exact gc_metG (maxL := 7) (lf := true) hl gc_pnX2 rfl gb_oX2 gc_rk_X2_letBeAbsent gb_nX2 hM gc_ck_X2_letBeAbsent (t_X2_letBeAbsent a b c σ _ hq) gc_hoI rfl (fun v hv => by cases hv; exact Or.inl rfl) (Nat.le_of_ble_eq_true rfl) rfl
  · cases hg
theorem gc_rk_X2_openAgain : cl_X2_openAgain.all (gb_rk gb_flX2 gb_slX2 gb_nlX2 gb_llX2 gb_tlX2 cX2_openAgain) = true := by decide +kernel
theorem gc_ck_X2_openAgain : cl_X2_openAgain.all (gc_ck gb_lkX2 gb_lnX2 [85, 88] 2) = true := by decide +kernel
theorem gm_89 (hl : l.stackTraces = false) : gc_MM l D cA ad A adV 89 := by
  refine ⟨gb_T89, fun h => absurd h (by decide +kernel), fun as σ o hg => ?_⟩
  have hM : ∀ mid ∈ ([85, 88] : List Nat), gc_MM l D cA ad A adV mid := (List.forall_mem_cons.mpr ⟨gm_85 hl, List.forall_mem_cons.mpr ⟨gm_88 hl, fun _ h => nomatch h⟩⟩)
  replace hg : c_X2_openAgain as gaSH σ some = some o := hg
  unfold c_X2_openAgain at hg
  split at hg
  · skip
    rename_i r0 a
    obtain ⟨hb, hg⟩ := gc_bif hg
    obtain rfl := Nat.eq_of_beq_eq_true hb
    obtain rfl := Option.some.inj hg
    exact gc_metG (maxL := 2) (lf := true) hl gc_pnX2 rfl gb_oX2 gc_rk_X2_openAgain gb_nX2 hM gc_ck_X2_openAgain (t_X2_openAgain a σ _ (e_X2_openAgain a σ)) gc_hoI rfl (fun v hv => by cases hv; exact Or.inr ⟨rfl, z_X2_openAgain a σ⟩) (Nat.le_of_ble_eq_true rfl) rfl
  · cases hg
theorem gc_rk_X0_presentAt : cl_X0_presentAt.all (gb_rk gb_flX0 gb_slX0 gb_nlX0 gb_llX0 gb_tlX0 cX0_presentAt) = true := by decide +kernel
theorem gc_ck_X0_presentAt : cl_X0_presentAt.all (gc_ck gb_lkX0 gb_lnX0 [48, 49] 2) = true := by decide +kernel
theorem gm_90 (hl : l.stackTraces = false) : gc_MM l D cA ad A adV 90 := by
  refine ⟨gb_T90, fun h => absurd h (by decide +kernel), fun as σ o hg => ?_⟩
  have hM : ∀ mid ∈ ([48, 49] : List Nat), gc_MM l D cA ad A adV mid := (List.forall_mem_cons.mpr ⟨gm_48 hl, List.forall_mem_cons.mpr ⟨gm_49 hl, fun _ h => nomatch h⟩⟩)
  replace hg : c_X0_presentAt as gaSH σ some = some o := hg
  unfold c_X0_presentAt at hg
  split at hg
  · skip
    rename_i r0 a
    obtain ⟨hb, hg⟩ := gc_bif hg
    obtain rfl := Nat.eq_of_beq_eq_true hb
    obtain ⟨q, hq, hg⟩ := gc_bind hg
    obtain rfl := Option.some.inj hg
    exact gc_metP (maxL := 5) (lf := true) hl gc_pnX0 rfl gb_oX0 gc_rk_X0_presentAt gb_nX0 hM gc_ck_X0_presentAt (t_X0_presentAt a σ _ hq) gd_hoI rfl (fun v hv => by cases hv; exact Or.inl rfl) (Nat.le_of_ble_eq_true rfl) rfl
  · cases hg
theorem gc_rk_X0_busyAt : cl_X0_busyAt.all (gb_rk gb_flX0 gb_slX0 gb_nlX0 gb_llX0 gb_tlX0 cX0_busyAt) = true := by decide +kernel
theorem gc_ck_X0_busyAt : cl_X0_busyAt.all (gc_ck gb_lkX0 gb_lnX0 [1, 2, 88, 91, 92] 2) = true := by decide +kernel
theorem gm_93 (hl : l.stackTraces = false) : gc_MM l D cA ad A adV 93 := by
  refine ⟨gb_T93, fun h => absurd h (by decide +kernel), fun as σ o hg => ?_⟩
  have hM : ∀ mid ∈ ([1, 2, 88, 91, 92] : List Nat), gc_MM l D cA ad A adV mid := (List.forall_mem_cons.mpr ⟨gm_1 hl, List.forall_mem_cons.mpr ⟨gm_2 hl, List.forall_mem_cons.mpr ⟨gm_88 hl, List.forall_mem_cons.mpr ⟨gm_91 hl, List.forall_mem_cons.mpr ⟨gm_92 hl, fun _ h => nomatch h⟩⟩⟩⟩⟩)
  replace hg : c_X0_busyAt as gaSH σ some = some o := hg
  unfold c_X0_busyAt at hg
  split at hg
  · skip
    rename_i r0 a b
    obtain ⟨hb, hg⟩ := gc_bif hg
    obtain rfl := Nat.eq_of_beq_eq_true hb
    obtain ⟨q, hq, hg⟩ := gc_bind hg
    obtain rfl := Option.some.inj hg
    exact gc_metG (maxL := 5) (lf := true) hl gc_pnX0 rfl gb_oX0 gc_rk_X0_busyAt gb_nX0 hM gc_ck_X0_busyAt (t_X0_busyAt a b σ _ hq) gc_hoI rfl (fun v hv => by cases hv; exact Or.inl rfl) (Nat.le_of_ble_eq_true rfl) rfl
  · cases hg
theorem gc_rk_X0_leastLoaded : cl_X0_leastLoaded.all (gb_rk gb_flX0 gb_slX0 gb_nlX0 gb_llX0 gb_tlX0 cX0_leastLoaded) = true := by decide +kernel
theorem gc_ck_X0_leastLoaded : cl_X0_leastLoaded.all (gc_ck gb_lkX0 gb_lnX0 [1, 32, 94] 2) = true := by decide +kernel
theorem gm_95 (hl : l.stackTraces = false) : gc_MM l D cA ad A adV 95 := by
  refine ⟨gb_T95, fun h => absurd h (by decide +kernel), fun as σ o hg => ?_⟩
  have hM : ∀ mid ∈ ([1, 32, 94] : List Nat), gc_MM l D cA ad A adV mid := (List.forall_mem_cons.mpr ⟨gm_1 hl, List.forall_mem_cons.mpr ⟨gm_32 hl, List.forall_mem_cons.mpr ⟨gm_94 hl, fun _ h => nomatch h⟩⟩⟩)
  replace hg : c_X0_leastLoaded as gaSH σ some = some o := hg
  unfold c_X0_leastLoaded at hg
  split at hg
  · skip
    rename_i r0 a
    obtain ⟨hb, hg⟩ := gc_bif hg
    obtain rfl := Nat.eq_of_beq_eq_true hb
    obtain ⟨q, hq, hg⟩ := gc_bind hg
    obtain rfl := Option.some.inj hg
    exact gc_metP (maxL := 6) (lf := true) hl gc_pnX0 rfl gb_oX0 gc_rk_X0_leastLoaded gb_nX0 hM gc_ck_X0_leastLoaded (t_X0_leastLoaded a σ _ hq) gd_hoI rfl (fun v hv => by cases hv; exact Or.inl rfl) (Nat.le_of_ble_eq_true rfl) rfl
  · cases hg
theorem gc_rk_X0_choose : cl_X0_choose.all (gb_rk gb_flX0 gb_slX0 gb_nlX0 gb_llX0 gb_tlX0 cX0_choose) = true := by decide +kernel
theorem gc_ck_X0_choose : cl_X0_choose.all (gc_ck gb_lkX0 gb_lnX0 [1, 2, 97, 98] 2) = true := by decide +kernel
theorem gm_99 (hl : l.stackTraces = false) : gc_MM l D cA ad A adV 99 := by
  refine ⟨gb_T99, fun h => absurd h (by decide +kernel), fun as σ o hg => ?_⟩
  have hM : ∀ mid ∈ ([1, 2, 97, 98] : List Nat), gc_MM l D cA ad A adV mid := (List.forall_mem_cons.mpr ⟨gm_1 hl, List.forall_mem_cons.mpr ⟨gm_2 hl, List.forall_mem_cons.mpr ⟨gm_97 hl, List.forall_mem_cons.mpr ⟨gm_98 hl, fun _ h => nomatch h⟩⟩⟩⟩)
  replace hg : c_X0_choose as gaSH σ some = some o := hg
  unfold c_X0_choose at hg
  split at hg
  · skip
    rename_i r0 a
    obtain ⟨hb, hg⟩ := gc_bif hg
    obtain rfl := Nat.eq_of_beq_eq_true hb
    obtain ⟨q, hq, hg⟩ := gc_bind hg
    obtain rfl := Option.some.inj hg
    exact gc_metG (maxL := 5) (lf := true) hl gc_pnX0 rfl gb_oX0 gc_rk_X0_choose gb_nX0 hM gc_ck_X0_choose (t_X0_choose a σ _ hq) gc_hoV rfl (fun v hv => by cases hv; rfl) (Nat.le_of_ble_eq_true rfl) rfl
  · cases hg
theorem gc_rk_X4_againstRoom : cl_X4_againstRoom.all (gb_rk gb_flX4 gb_slX4 gb_nlX4 gb_llX4 gb_tlX4 cX4_againstRoom) = true := by decide +kernel
theorem gc_ck_X4_againstRoom : cl_X4_againstRoom.all (gc_ck gb_lkX4 gb_lnX4 [1, 101] 2) = true := by decide +kernel
theorem gm_105 (hl : l.stackTraces = false) : gc_MM l D cA ad A adV 105 := by
  refine ⟨gb_T105, fun h => absurd h (by decide +kernel), fun as σ o hg => ?_⟩
  have hM : ∀ mid ∈ ([1, 101] : List Nat), gc_MM l D cA ad A adV mid := (List.forall_mem_cons.mpr ⟨gm_1 hl, List.forall_mem_cons.mpr ⟨gm_101 hl, fun _ h => nomatch h⟩⟩)
  replace hg : c_X4_againstRoom as gaSH σ some = some o := hg
  unfold c_X4_againstRoom at hg
  split at hg
  · skip
    rename_i r0 a b
    obtain ⟨hb, hg⟩ := gc_bif hg
    obtain rfl := Nat.eq_of_beq_eq_true hb
    obtain ⟨q, hq, hg⟩ := gc_bind hg
    obtain rfl := Option.some.inj hg
    exact gc_metP (maxL := 3) (lf := true) hl gc_pnX4 rfl gb_oX4 gc_rk_X4_againstRoom gb_nX4 hM gc_ck_X4_againstRoom (t_X4_againstRoom a b σ _ hq) gd_hoI rfl (fun v hv => by cases hv; exact Or.inl rfl) (Nat.le_of_ble_eq_true rfl) rfl
  · cases hg
theorem gc_rk_X4_isBusy : cl_X4_isBusy.all (gb_rk gb_flX4 gb_slX4 gb_nlX4 gb_llX4 gb_tlX4 cX4_isBusy) = true := by decide +kernel
theorem gc_ck_X4_isBusy : cl_X4_isBusy.all (gc_ck gb_lkX4 gb_lnX4 [101] 2) = true := by decide +kernel
theorem gm_108 (hl : l.stackTraces = false) : gc_MM l D cA ad A adV 108 := by
  refine ⟨gb_T108, fun h => absurd h (by decide +kernel), fun as σ o hg => ?_⟩
  have hM : ∀ mid ∈ ([101] : List Nat), gc_MM l D cA ad A adV mid := (List.forall_mem_cons.mpr ⟨gm_101 hl, fun _ h => nomatch h⟩)
  replace hg : c_X4_isBusy as gaSH σ some = some o := hg
  unfold c_X4_isBusy at hg
  split at hg
  · skip
    rename_i r0 a b
    obtain ⟨hb, hg⟩ := gc_bif hg
    obtain rfl := Nat.eq_of_beq_eq_true hb
    obtain ⟨q, hq, hg⟩ := gc_bind hg
    obtain rfl := Option.some.inj hg
    exact gc_metP (maxL := 3) (lf := true) hl gc_pnX4 rfl gb_oX4 gc_rk_X4_isBusy gb_nX4 hM gc_ck_X4_isBusy (t_X4_isBusy a b σ _ hq) gd_hoI rfl (fun v hv => by cases hv; exact Or.inr ⟨rfl, z_X4_isBusy a b σ _ hq⟩) (Nat.le_of_ble_eq_true rfl) rfl
  · cases hg
theorem gc_rk_X4_isHeldByThird : cl_X4_isHeldByThird.all (gb_rk gb_flX4 gb_slX4 gb_nlX4 gb_llX4 gb_tlX4 cX4_isHeldByThird) = true := by decide +kernel
theorem gc_ck_X4_isHeldByThird : cl_X4_isHeldByThird.all (gc_ck gb_lkX4 gb_lnX4 [1, 101] 2) = true := by decide +kernel
theorem gm_112 (hl : l.stackTraces = false) : gc_MM l D cA ad A adV 112 := by
  refine ⟨gb_T112, fun h => absurd h (by decide +kernel), fun as σ o hg => ?_⟩
  have hM : ∀ mid ∈ ([1, 101] : List Nat), gc_MM l D cA ad A adV mid := (List.forall_mem_cons.mpr ⟨gm_1 hl, List.forall_mem_cons.mpr ⟨gm_101 hl, fun _ h => nomatch h⟩⟩)
  replace hg : c_X4_isHeldByThird as gaSH σ some = some o := hg
  unfold c_X4_isHeldByThird at hg
  split at hg
  · skip
    rename_i r0 r1 a b
    rcases gc_bif2 hg with ⟨hb, hg⟩ | hg
    · skip
      obtain ⟨hb0, hb1⟩ := Bool.and_eq_true_iff.mp hb
      obtain rfl := Nat.eq_of_beq_eq_true hb0
      obtain rfl := Nat.eq_of_beq_eq_true hb1
      obtain ⟨q, hq, hg⟩ := gc_bind hg
      obtain rfl := Option.some.inj hg
      exact gc_metP (maxL := 5) (lf := true) hl gc_pnX4 rfl gb_oX4 gc_rk_X4_isHeldByThird gb_nX4 hM gc_ck_X4_isHeldByThird (t_X4_isHeldByThird_23 a b σ _ hq) gd_hoI rfl (fun v hv => by cases hv; exact Or.inr ⟨rfl, z_X4_isHeldByThird_23 a b σ _ hq⟩) (Nat.le_of_ble_eq_true rfl) rfl
    · skip
      obtain ⟨hb, hg⟩ := gc_bif hg
      obtain ⟨hb0, hb1⟩ := Bool.and_eq_true_iff.mp hb
      obtain rfl := Nat.eq_of_beq_eq_true hb0
      obtain rfl := Nat.eq_of_beq_eq_true hb1
      obtain ⟨q, hq, hg⟩ := gc_bind hg
      obtain rfl := Option.some.inj hg
      exact gc_metP (maxL := 5) (lf := true) hl gc_pnX4 rfl gb_oX4 gc_rk_X4_isHeldByThird gb_nX4 hM gc_ck_X4_isHeldByThird (t_X4_isHeldByThird_25 a b σ _ hq) gd_hoI rfl (fun v hv => by cases hv; exact Or.inr ⟨rfl, z_X4_isHeldByThird_25 a b σ _ hq⟩) (Nat.le_of_ble_eq_true rfl) rfl
  · cases hg
theorem gc_rk_X3_dutiesOn : cl_X3_dutiesOn.all (gb_rk gb_flX3 gb_slX3 gb_nlX3 gb_llX3 gb_tlX3 cX3_dutiesOn) = true := by decide +kernel
theorem gc_ck_X3_dutiesOn : cl_X3_dutiesOn.all (gc_ck gb_lkX3 gb_lnX3 [1, 48, 115] 2) = true := by decide +kernel
theorem gm_116 (hl : l.stackTraces = false) : gc_MM l D cA ad A adV 116 := by
  refine ⟨gb_T116, fun h => absurd h (by decide +kernel), fun as σ o hg => ?_⟩
  have hM : ∀ mid ∈ ([1, 48, 115] : List Nat), gc_MM l D cA ad A adV mid := (List.forall_mem_cons.mpr ⟨gm_1 hl, List.forall_mem_cons.mpr ⟨gm_48 hl, List.forall_mem_cons.mpr ⟨gm_115 hl, fun _ h => nomatch h⟩⟩⟩)
  replace hg : c_X3_dutiesOn as gaSH σ some = some o := hg
  unfold c_X3_dutiesOn at hg
  split at hg
  · skip
    rename_i r0 a b
    obtain ⟨hb, hg⟩ := gc_bif hg
    obtain rfl := Nat.eq_of_beq_eq_true hb
    obtain ⟨q, hq, hg⟩ := gc_bind hg
    obtain rfl := Option.some.inj hg
    exact gc_metP (maxL := 5) (lf := true) hl gc_pnX3 rfl gb_oX3 gc_rk_X3_dutiesOn gb_nX3 hM gc_ck_X3_dutiesOn (t_X3_dutiesOn a b σ _ hq) gd_hoI rfl (fun v hv => by cases hv; exact Or.inl rfl) (Nat.le_of_ble_eq_true rfl) rfl
  · cases hg
theorem gc_rk_X12_reasonToMove : cl_X12_reasonToMove.all (gb_rk gb_flX12 gb_slX12 gb_nlX12 gb_llX12 gb_tlX12 cX12_reasonToMove) = true := by decide +kernel
theorem gc_ck_X12_reasonToMove : cl_X12_reasonToMove.all (gc_ck gb_lkX12 gb_lnX12 [132, 136, 137, 139] 2) = true := by decide +kernel
theorem gm_140 (hl : l.stackTraces = false) : gc_MM l D cA ad A adV 140 := by
  refine ⟨gb_T140, fun h => absurd h (by decide +kernel), fun as σ o hg => ?_⟩
  have hM : ∀ mid ∈ ([132, 136, 137, 139] : List Nat), gc_MM l D cA ad A adV mid := (List.forall_mem_cons.mpr ⟨gm_132 hl, List.forall_mem_cons.mpr ⟨gm_136 hl, List.forall_mem_cons.mpr ⟨gm_137 hl, List.forall_mem_cons.mpr ⟨gm_139 hl, fun _ h => nomatch h⟩⟩⟩⟩)
  replace hg : c_X12_reasonToMove as gaSH σ some = some o := hg
  unfold c_X12_reasonToMove at hg
  split at hg
  · skip
    rename_i r0 a b
    obtain ⟨hb, hg⟩ := gc_bif hg
    obtain rfl := Nat.eq_of_beq_eq_true hb
    obtain ⟨q, hq, hg⟩ := gc_bind hg
    obtain rfl := Option.some.inj hg
    exact gc_metP (maxL := 4) (lf := true) hl gc_pnX12 rfl gb_oX12 gc_rk_X12_reasonToMove gb_nX12 hM gc_ck_X12_reasonToMove (t_X12_reasonToMove a b σ _ hq) gd_hoI rfl (fun v hv => by cases hv; exact Or.inl rfl) (Nat.le_of_ble_eq_true rfl) rfl
  · cases hg
theorem gc_rk_X12_reasonToExchange : cl_X12_reasonToExchange.all (gb_rk gb_flX12 gb_slX12 gb_nlX12 gb_llX12 gb_tlX12 cX12_reasonToExchange) = true := by decide +kernel
theorem gc_ck_X12_reasonToExchange : cl_X12_reasonToExchange.all (gc_ck gb_lkX12 gb_lnX12 [130, 139, 141] 2) = true := by decide +kernel
theorem gm_142 (hl : l.stackTraces = false) : gc_MM l D cA ad A adV 142 := by
  refine ⟨gb_T142, fun h => absurd h (by decide +kernel), fun as σ o hg => ?_⟩
  have hM : ∀ mid ∈ ([130, 139, 141] : List Nat), gc_MM l D cA ad A adV mid := (List.forall_mem_cons.mpr ⟨gm_130 hl, List.forall_mem_cons.mpr ⟨gm_139 hl, List.forall_mem_cons.mpr ⟨gm_141 hl, fun _ h => nomatch h⟩⟩⟩)
  replace hg : c_X12_reasonToExchange as gaSH σ some = some o := hg
  unfold c_X12_reasonToExchange at hg
  split at hg
  · skip
    rename_i r0 a b
    obtain ⟨hb, hg⟩ := gc_bif hg
    obtain rfl := Nat.eq_of_beq_eq_true hb
    obtain ⟨q, hq, hg⟩ := gc_bind hg
    obtain rfl := Option.some.inj hg
    exact gc_metP (maxL := 3) (lf := true) hl gc_pnX12 rfl gb_oX12 gc_rk_X12_reasonToExchange gb_nX12 hM gc_ck_X12_reasonToExchange (t_X12_reasonToExchange a b σ _ hq) gd_hoI rfl (fun v hv => by cases hv; exact Or.inl rfl) (Nat.le_of_ble_eq_true rfl) rfl
  · cases hg
theorem gc_rk_X12_taughtBy : cl_X12_taughtBy.all (gb_rk gb_flX12 gb_slX12 gb_nlX12 gb_llX12 gb_tlX12 cX12_taughtBy) = true := by decide +kernel
theorem gc_ck_X12_taughtBy : cl_X12_taughtBy.all (gc_ck gb_lkX12 gb_lnX12 [145] 2) = true := by decide +kernel
theorem gm_146 (hl : l.stackTraces = false) : gc_MM l D cA ad A adV 146 := by
  refine ⟨gb_T146, fun h => absurd h (by decide +kernel), fun as σ o hg => ?_⟩
  have hM : ∀ mid ∈ ([145] : List Nat), gc_MM l D cA ad A adV mid := (List.forall_mem_cons.mpr ⟨gm_145 hl, fun _ h => nomatch h⟩)
  replace hg : c_X12_taughtBy as gaSH σ some = some o := hg
  unfold c_X12_taughtBy at hg
  split at hg
  · skip
    rename_i r0 a
    obtain ⟨hb, hg⟩ := gc_bif hg
    obtain rfl := Nat.eq_of_beq_eq_true hb
    obtain ⟨q, hq, hg⟩ := gc_bind hg
    obtain rfl := Option.some.inj hg
    exact gc_metP (maxL := 4) (lf := true) hl gc_pnX12 rfl gb_oX12 gc_rk_X12_taughtBy gb_nX12 hM gc_ck_X12_taughtBy (t_X12_taughtBy a σ _ hq) gd_hoI rfl (fun v hv => by cases hv; exact Or.inl rfl) (Nat.le_of_ble_eq_true rfl) rfl
  · cases hg
theorem gc_rk_X12_reasonToWatch : cl_X12_reasonToWatch.all (gb_rk gb_flX12 gb_slX12 gb_nlX12 gb_llX12 gb_tlX12 cX12_reasonToWatch) = true := by decide +kernel
theorem gc_ck_X12_reasonToWatch : cl_X12_reasonToWatch.all (gc_ck gb_lkX12 gb_lnX12 [130, 137, 138, 139, 155] 2) = true := by decide +kernel
theorem gm_156 (hl : l.stackTraces = false) : gc_MM l D cA ad A adV 156 := by
  refine ⟨gb_T156, fun h => absurd h (by decide +kernel), fun as σ o hg => ?_⟩
  have hM : ∀ mid ∈ ([130, 137, 138, 139, 155] : List Nat), gc_MM l D cA ad A adV mid := (List.forall_mem_cons.mpr ⟨gm_130 hl, List.forall_mem_cons.mpr ⟨gm_137 hl, List.forall_mem_cons.mpr ⟨gm_138 hl, List.forall_mem_cons.mpr ⟨gm_139 hl, List.forall_mem_cons.mpr ⟨gm_155 hl, fun _ h => nomatch h⟩⟩⟩⟩⟩)
  replace hg : c_X12_reasonToWatch as gaSH σ some = some o := hg
  unfold c_X12_reasonToWatch at hg
  split at hg
  · skip
    rename_i r0 a b
    obtain ⟨hb, hg⟩ := gc_bif hg
    obtain rfl := Nat.eq_of_beq_eq_true hb
    obtain ⟨q, hq, hg⟩ := gc_bind hg
    obtain rfl := Option.some.inj hg
    exact gc_metP (maxL := 4) (lf := true) hl gc_pnX12 rfl gb_oX12 gc_rk_X12_reasonToWatch gb_nX12 hM gc_ck_X12_reasonToWatch (t_X12_reasonToWatch a b σ _ hq) gd_hoI rfl (fun v hv => by cases hv; exact Or.inl rfl) (Nat.le_of_ble_eq_true rfl) rfl
  · cases hg
theorem gc_rk_X12_chains : cl_X12_chains.all (gb_rk gb_flX12 gb_slX12 gb_nlX12 gb_llX12 gb_tlX12 cX12_chains) = true := by decide +kernel
theorem gc_ck_X12_chains : cl_X12_chains.all (gc_ck gb_lkX12 gb_lnX12 [137] 2) = true := by decide +kernel
theorem gm_162 (hl : l.stackTraces = false) : gc_MM l D cA ad A adV 162 := by
  refine ⟨gb_T162, fun h => absurd h (by decide +kernel), fun as σ o hg => ?_⟩
  have hM : ∀ mid ∈ ([137] : List Nat), gc_MM l D cA ad A adV mid := (List.forall_mem_cons.mpr ⟨gm_137 hl, fun _ h => nomatch h⟩)
  replace hg : c_X12_chains as gaSH σ some = some o := hg
  unfold c_X12_chains at hg
  split at hg
  · skip
    rename_i r0 a
    obtain ⟨hb, hg⟩ := gc_bif hg
    obtain rfl := Nat.eq_of_beq_eq_true hb
    obtain ⟨q, hq, hg⟩ := gc_bind hg
    obtain rfl := Option.some.inj hg
    exact gc_metG (maxL := 6) (lf := true) hl gc_pnX12 rfl gb_oX12 gc_rk_X12_chains gb_nX12 hM gc_ck_X12_chains (t_X12_chains a σ _ hq) gc_hoV rfl (fun v hv => by cases hv; rfl) (Nat.le_of_ble_eq_true rfl) rfl
  · cases hg
theorem gc_rk_X12_setAbsent : cl_X12_setAbsent.all (gb_rk gb_flX12 gb_slX12 gb_nlX12 gb_llX12 gb_tlX12 cX12_setAbsent) = true := by decide +kernel
theorem gc_ck_X12_setAbsent : cl_X12_setAbsent.all (gc_ck gb_lkX12 gb_lnX12 [154, 158, 165, 173, 174] 2) = true := by decide +kernel
theorem gm_175 (hl : l.stackTraces = false) : gc_MM l D cA ad A adV 175 := by
  refine ⟨gb_T175, fun h => absurd h (by decide +kernel), fun as σ o hg => ?_⟩
  have hM : ∀ mid ∈ ([154, 158, 165, 173, 174] : List Nat), gc_MM l D cA ad A adV mid := (List.forall_mem_cons.mpr ⟨gm_154 hl, List.forall_mem_cons.mpr ⟨gm_158 hl, List.forall_mem_cons.mpr ⟨gm_165 hl, List.forall_mem_cons.mpr ⟨gm_173 hl, List.forall_mem_cons.mpr ⟨gm_174 hl, fun _ h => nomatch h⟩⟩⟩⟩⟩)
  replace hg : c_X12_setAbsent as gaSH σ some = some o := hg
  unfold c_X12_setAbsent at hg
  split at hg
  · skip
    rename_i r0 a b c
    obtain ⟨hb, hg⟩ := gc_bif hg
    obtain rfl := Nat.eq_of_beq_eq_true hb
    obtain ⟨q, hq, hg⟩ := gc_bind hg
    obtain rfl := Option.some.inj hg
    exact gc_metG (maxL := 4) (lf := true) hl gc_pnX12 rfl gb_oX12 gc_rk_X12_setAbsent gb_nX12 hM gc_ck_X12_setAbsent (t_X12_setAbsent a b c σ _ hq) gc_hoI rfl (fun v hv => by cases hv; exact Or.inl rfl) (Nat.le_of_ble_eq_true rfl) rfl
  · cases hg
theorem gc_rk_X3_dutiesOf : cl_X3_dutiesOf.all (gb_rk gb_flX3 gb_slX3 gb_nlX3 gb_llX3 gb_tlX3 cX3_dutiesOf) = true := by decide +kernel
theorem gc_ck_X3_dutiesOf : cl_X3_dutiesOf.all (gc_ck gb_lkX3 gb_lnX3 [1, 115] 2) = true := by decide +kernel
theorem gm_177 (hl : l.stackTraces = false) : gc_MM l D cA ad A adV 177 := by
  refine ⟨gb_T177, fun h => absurd h (by decide +kernel), fun as σ o hg => ?_⟩
  have hM : ∀ mid ∈ ([1, 115] : List Nat), gc_MM l D cA ad A adV mid := (List.forall_mem_cons.mpr ⟨gm_1 hl, List.forall_mem_cons.mpr ⟨gm_115 hl, fun _ h => nomatch h⟩⟩)
  replace hg : c_X3_dutiesOf as gaSH σ some = some o := hg
  unfold c_X3_dutiesOf at hg
  split at hg
  · skip
    rename_i r0 a
    obtain ⟨hb, hg⟩ := gc_bif hg
    obtain rfl := Nat.eq_of_beq_eq_true hb
    obtain ⟨q, hq, hg⟩ := gc_bind hg
    obtain rfl := Option.some.inj hg
    exact gc_metP (maxL := 4) (lf := true) hl gc_pnX3 rfl gb_oX3 gc_rk_X3_dutiesOf gb_nX3 hM gc_ck_X3_dutiesOf (t_X3_dutiesOf a σ _ hq) gd_hoI rfl (fun v hv => by cases hv; exact Or.inl rfl) (Nat.le_of_ble_eq_true rfl) rfl
  · cases hg
theorem gc_rk_X12_setRoom : cl_X12_setRoom.all (gb_rk gb_flX12 gb_slX12 gb_nlX12 gb_llX12 gb_tlX12 cX12_setRoom) = true := by decide +kernel
theorem gc_ck_X12_setRoom : cl_X12_setRoom.all (gc_ck gb_lkX12 gb_lnX12 [129, 131, 133, 173, 174] 2) = true := by decide +kernel
theorem gm_184 (hl : l.stackTraces = false) : gc_MM l D cA ad A adV 184 := by
  refine ⟨gb_T184, fun h => absurd h (by decide +kernel), fun as σ o hg => ?_⟩
  have hM : ∀ mid ∈ ([129, 131, 133, 173, 174] : List Nat), gc_MM l D cA ad A adV mid := (List.forall_mem_cons.mpr ⟨gm_129 hl, List.forall_mem_cons.mpr ⟨gm_131 hl, List.forall_mem_cons.mpr ⟨gm_133 hl, List.forall_mem_cons.mpr ⟨gm_173 hl, List.forall_mem_cons.mpr ⟨gm_174 hl, fun _ h => nomatch h⟩⟩⟩⟩⟩)
  replace hg : c_X12_setRoom as gaSH σ some = some o := hg
  unfold c_X12_setRoom at hg
  split at hg
  · skip
    rename_i r0 a b
    obtain ⟨hb, hg⟩ := gc_bif hg
    obtain rfl := Nat.eq_of_beq_eq_true hb
    obtain ⟨q, hq, hg⟩ := gc_bind hg
    obtain rfl := Option.some.inj hg
    exact gc_metG (maxL := 4) (lf := true) hl gc_pnX12 rfl gb_oX12 gc_rk_X12_setRoom gb_nX12 hM gc_ck_X12_setRoom (t_X12_setRoom a b σ _ hq) gc_hoI rfl (fun v hv => by cases hv; exact Or.inl rfl) (Nat.le_of_ble_eq_true rfl) rfl
  · cases hg
theorem gc_rk_X12_reopen : cl_X12_reopen.all (gb_rk gb_flX12 gb_slX12 gb_nlX12 gb_llX12 gb_tlX12 cX12_reopen) = true := by decide +kernel
theorem gc_ck_X12_reopen : cl_X12_reopen.all (gc_ck gb_lkX12 gb_lnX12 [129, 130, 160, 173, 174] 2) = true := by decide +kernel
theorem gm_185 (hl : l.stackTraces = false) : gc_MM l D cA ad A adV 185 := by
  refine ⟨gb_T185, fun h => absurd h (by decide +kernel), fun as σ o hg => ?_⟩
  have hM : ∀ mid ∈ ([129, 130, 160, 173, 174] : List Nat), gc_MM l D cA ad A adV mid := (List.forall_mem_cons.mpr ⟨gm_129 hl, List.forall_mem_cons.mpr ⟨gm_130 hl, List.forall_mem_cons.mpr ⟨gm_160 hl, List.forall_mem_cons.mpr ⟨gm_173 hl, List.forall_mem_cons.mpr ⟨gm_174 hl, fun _ h => nomatch h⟩⟩⟩⟩⟩)
  replace hg : c_X12_reopen as gaSH σ some = some o := hg
  unfold c_X12_reopen at hg
  split at hg
  · skip
    rename_i r0 a
    obtain ⟨hb, hg⟩ := gc_bif hg
    obtain rfl := Nat.eq_of_beq_eq_true hb
    obtain ⟨q, hq, hg⟩ := gc_bind hg
    obtain rfl := Option.some.inj hg
    exact gc_metG (maxL := 3) (lf := true) hl gc_pnX12 rfl gb_oX12 gc_rk_X12_reopen gb_nX12 hM gc_ck_X12_reopen (t_X12_reopen a σ _ hq) gc_hoI rfl (fun v hv => by cases hv; exact Or.inl rfl) (Nat.le_of_ble_eq_true rfl) rfl
  · cases hg
theorem gc_rk_X3_differs : cl_X3_differs.all (gb_rk gb_flX3 gb_slX3 gb_nlX3 gb_llX3 gb_tlX3 cX3_differs) = true := by decide +kernel
theorem gc_ck_X3_differs : cl_X3_differs.all (gc_ck gb_lkX3 gb_lnX3 [1, 115] 2) = true := by decide +kernel
theorem gm_186 (hl : l.stackTraces = false) : gc_MM l D cA ad A adV 186 := by
  refine ⟨gb_T186, fun h => absurd h (by decide +kernel), fun as σ o hg => ?_⟩
  have hM : ∀ mid ∈ ([1, 115] : List Nat), gc_MM l D cA ad A adV mid := (List.forall_mem_cons.mpr ⟨gm_1 hl, List.forall_mem_cons.mpr ⟨gm_115 hl, fun _ h => nomatch h⟩⟩)
  replace hg : c_X3_differs as gaSH σ some = some o := hg
  unfold c_X3_differs at hg
  split at hg
  · skip
    rename_i r0 a
    obtain ⟨hb, hg⟩ := gc_bif hg
    obtain rfl := Nat.eq_of_beq_eq_true hb
    obtain rfl := Option.some.inj hg
    exact gc_metP (maxL := 2) (lf := true) hl gc_pnX3 rfl gb_oX3 gc_rk_X3_differs gb_nX3 hM gc_ck_X3_differs (t_X3_differs a σ _ (e_X3_differs a σ)) gd_hoI rfl (fun v hv => by cases hv; exact Or.inr ⟨rfl, z_X3_differs a σ⟩) (Nat.le_of_ble_eq_true rfl) rfl
  · cases hg
end
