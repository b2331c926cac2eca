section
variable {l : Launch} {D : va_G} {cA : Nat → ClassId} {ad : Nat → Nat} {A : Nat → Prop} {adV : Nat → Nat}
theorem gc_rk_X12_reset : cl_X12_reset.all (gb_rk gb_flX12 gb_slX12 gb_nlX12 gb_llX12 gb_tlX12 cX12_reset) = true := by decide +kernel
theorem gc_ck_X12_reset : cl_X12_reset.all (gc_ck gb_lkX12 gb_lnX12 [73, 139, 160, 174, 190] 2) = true := by decide +kernel
theorem gm_191 (hl : l.stackTraces = false) : gc_MM l D cA ad A adV 191 := by
  refine ⟨gb_T191, fun h => absurd h (by decide +kernel), fun as σ o hg => ?_⟩
  have hM : ∀ mid ∈ ([73, 139, 160, 174, 190] : List Nat), gc_MM l D cA ad A adV mid := (List.forall_mem_cons.mpr ⟨gm_73 hl, List.forall_mem_cons.mpr ⟨gm_139 hl, List.forall_mem_cons.mpr ⟨gm_160 hl, List.forall_mem_cons.mpr ⟨gm_174 hl, List.forall_mem_cons.mpr ⟨gm_190 hl, fun _ h => nomatch h⟩⟩⟩⟩⟩)
  replace hg : c_X12_reset as gaSH σ some = some o := hg
  unfold c_X12_reset at hg
  split at hg
  · skip
    rename_i r0
    obtain ⟨hb, hg⟩ := gc_bif hg
    obtain rfl := Nat.eq_of_beq_eq_true hb
    obtain ⟨q, hq, hg⟩ := gc_bind hg
    obtain rfl := Option.some.inj hg
    exact gc_metG (maxL := 3) (lf := true) hl gc_pnX12 rfl gb_oX12 gc_rk_X12_reset gb_nX12 hM gc_ck_X12_reset (t_X12_reset σ _ hq) gc_hoI rfl (fun v hv => by cases hv; exact Or.inl rfl) (Nat.le_of_ble_eq_true rfl) rfl
  · cases hg
theorem gc_rk_X12_whyNotRoom : cl_X12_whyNotRoom.all (gb_rk gb_flX12 gb_slX12 gb_nlX12 gb_llX12 gb_tlX12 cX12_whyNotRoom) = true := by decide +kernel
theorem gc_ck_X12_whyNotRoom : cl_X12_whyNotRoom.all (gc_ck gb_lkX12 gb_lnX12 [129, 131, 133, 173] 2) = true := by decide +kernel
theorem gm_196 (hl : l.stackTraces = false) : gc_MM l D cA ad A adV 196 := by
  refine ⟨gb_T196, fun h => absurd h (by decide +kernel), fun as σ o hg => ?_⟩
  have hM : ∀ mid ∈ ([129, 131, 133, 173] : List Nat), gc_MM l D cA ad A adV mid := (List.forall_mem_cons.mpr ⟨gm_129 hl, List.forall_mem_cons.mpr ⟨gm_131 hl, List.forall_mem_cons.mpr ⟨gm_133 hl, List.forall_mem_cons.mpr ⟨gm_173 hl, fun _ h => nomatch h⟩⟩⟩⟩)
  replace hg : c_X12_whyNotRoom as gaSH σ some = some o := hg
  unfold c_X12_whyNotRoom at hg
  split at hg
  · skip
    rename_i r0 a b
    obtain ⟨hb, hg⟩ := gc_bif hg
    obtain rfl := Nat.eq_of_beq_eq_true hb
    obtain ⟨q, hq, hg⟩ := gc_bind hg
    obtain rfl := Option.some.inj hg
    exact gc_metG (maxL := 3) (lf := true) hl gc_pnX12 rfl gb_oX12 gc_rk_X12_whyNotRoom gb_nX12 hM gc_ck_X12_whyNotRoom (t_X12_whyNotRoom a b σ _ hq) gc_hoI rfl (fun v hv => by cases hv; exact Or.inl rfl) (Nat.le_of_ble_eq_true rfl) rfl
  · cases hg
theorem gc_rk_X3_supervisedLessons : cl_X3_supervisedLessons.all (gb_rk gb_flX3 gb_slX3 gb_nlX3 gb_llX3 gb_tlX3 cX3_supervisedLessons) = true := by decide +kernel
theorem gc_ck_X3_supervisedLessons : cl_X3_supervisedLessons.all (gc_ck gb_lkX3 gb_lnX3 [204] 2) = true := by decide +kernel
theorem gm_205 (hl : l.stackTraces = false) : gc_MM l D cA ad A adV 205 := by
  refine ⟨gb_T205, fun h => absurd h (by decide +kernel), fun as σ o hg => ?_⟩
  have hM : ∀ mid ∈ ([204] : List Nat), gc_MM l D cA ad A adV mid := (List.forall_mem_cons.mpr ⟨gm_204 hl, fun _ h => nomatch h⟩)
  replace hg : c_X3_supervisedLessons as gaSH σ some = some o := hg
  unfold c_X3_supervisedLessons at hg
  split at hg
  · skip
    rename_i r0
    obtain ⟨hb, hg⟩ := gc_bif hg
    obtain rfl := Nat.eq_of_beq_eq_true hb
    obtain ⟨q, hq, hg⟩ := gc_bind hg
    obtain rfl := Option.some.inj hg
    exact gc_metP (maxL := 1) (lf := true) hl gc_pnX3 rfl gb_oX3 gc_rk_X3_supervisedLessons gb_nX3 hM gc_ck_X3_supervisedLessons (t_X3_supervisedLessons σ _ hq) gd_hoI rfl (fun v hv => by cases hv; exact Or.inl rfl) (Nat.le_of_ble_eq_true rfl) rfl
  · cases hg
theorem gc_rk_X3_openLessons : cl_X3_openLessons.all (gb_rk gb_flX3 gb_slX3 gb_nlX3 gb_llX3 gb_tlX3 cX3_openLessons) = true := by decide +kernel
theorem gc_ck_X3_openLessons : cl_X3_openLessons.all (gc_ck gb_lkX3 gb_lnX3 [204] 2) = true := by decide +kernel
theorem gm_206 (hl : l.stackTraces = false) : gc_MM l D cA ad A adV 206 := by
  refine ⟨gb_T206, fun h => absurd h (by decide +kernel), fun as σ o hg => ?_⟩
  have hM : ∀ mid ∈ ([204] : List Nat), gc_MM l D cA ad A adV mid := (List.forall_mem_cons.mpr ⟨gm_204 hl, fun _ h => nomatch h⟩)
  replace hg : c_X3_openLessons as gaSH σ some = some o := hg
  unfold c_X3_openLessons at hg
  split at hg
  · skip
    rename_i r0
    obtain ⟨hb, hg⟩ := gc_bif hg
    obtain rfl := Nat.eq_of_beq_eq_true hb
    obtain ⟨q, hq, hg⟩ := gc_bind hg
    obtain rfl := Option.some.inj hg
    exact gc_metP (maxL := 1) (lf := true) hl gc_pnX3 rfl gb_oX3 gc_rk_X3_openLessons gb_nX3 hM gc_ck_X3_openLessons (t_X3_openLessons σ _ hq) gd_hoI rfl (fun v hv => by cases hv; exact Or.inl rfl) (Nat.le_of_ble_eq_true rfl) rfl
  · cases hg
theorem gc_rk_X12_count : cl_X12_count.all (gb_rk gb_flX12 gb_slX12 gb_nlX12 gb_llX12 gb_tlX12 cX12_count) = true := by decide +kernel
theorem gc_ck_X12_count : cl_X12_count.all (gc_ck gb_lkX12 gb_lnX12 [10, 173, 190, 207, 208] 2) = true := by decide +kernel
theorem gm_209 (hl : l.stackTraces = false) : gc_MM l D cA ad A adV 209 := by
  refine ⟨gb_T209, fun h => absurd h (by decide +kernel), fun as σ o hg => ?_⟩
  have hM : ∀ mid ∈ ([10, 173, 190, 207, 208] : List Nat), gc_MM l D cA ad A adV mid := (List.forall_mem_cons.mpr ⟨gm_10 hl, List.forall_mem_cons.mpr ⟨gm_173 hl, List.forall_mem_cons.mpr ⟨gm_190 hl, List.forall_mem_cons.mpr ⟨gm_207 hl, List.forall_mem_cons.mpr ⟨gm_208 hl, fun _ h => nomatch h⟩⟩⟩⟩⟩)
  replace hg : c_X12_count as gaSH σ some = some o := hg
  unfold c_X12_count at hg
  split at hg
  · skip
    rename_i r0 a
    obtain ⟨hb, hg⟩ := gc_bif hg
    obtain rfl := Nat.eq_of_beq_eq_true hb
    obtain ⟨q, hq, hg⟩ := gc_bind hg
    obtain rfl := Option.some.inj hg
    exact gc_metG (maxL := 2) (lf := true) hl gc_pnX12 rfl gb_oX12 gc_rk_X12_count gb_nX12 hM gc_ck_X12_count (t_X12_count a σ _ hq) gc_hoI rfl (fun v hv => by cases hv; exact Or.inl rfl) (Nat.le_of_ble_eq_true rfl) rfl
  · cases hg
theorem gc_rk_X12_lesson : cl_X12_lesson.all (gb_rk gb_flX12 gb_slX12 gb_nlX12 gb_llX12 gb_tlX12 cX12_lesson) = true := by decide +kernel
theorem gc_ck_X12_lesson : cl_X12_lesson.all (gc_ck gb_lkX12 gb_lnX12 [10, 129, 173, 189] 2) = true := by decide +kernel
theorem gm_210 (hl : l.stackTraces = false) : gc_MM l D cA ad A adV 210 := by
  refine ⟨gb_T210, fun h => absurd h (by decide +kernel), fun as σ o hg => ?_⟩
  have hM : ∀ mid ∈ ([10, 129, 173, 189] : List Nat), gc_MM l D cA ad A adV mid := (List.forall_mem_cons.mpr ⟨gm_10 hl, List.forall_mem_cons.mpr ⟨gm_129 hl, List.forall_mem_cons.mpr ⟨gm_173 hl, List.forall_mem_cons.mpr ⟨gm_189 hl, fun _ h => nomatch h⟩⟩⟩⟩)
  replace hg : c_X12_lesson as gaSH σ some = some o := hg
  unfold c_X12_lesson at hg
  split at hg
  · skip
    rename_i r0 a b
    obtain ⟨hb, hg⟩ := gc_bif hg
    obtain rfl := Nat.eq_of_beq_eq_true hb
    obtain ⟨q, hq, hg⟩ := gc_bind hg
    obtain rfl := Option.some.inj hg
    exact gc_metG (maxL := 3) (lf := true) hl gc_pnX12 rfl gb_oX12 gc_rk_X12_lesson gb_nX12 hM gc_ck_X12_lesson (t_X12_lesson a b σ _ hq) gc_hoI rfl (fun v hv => by cases hv; exact Or.inl rfl) (Nat.le_of_ble_eq_true rfl) rfl
  · cases hg
theorem gc_rk_X12_room : cl_X12_room.all (gb_rk gb_flX12 gb_slX12 gb_nlX12 gb_llX12 gb_tlX12 cX12_room) = true := by decide +kernel
theorem gc_ck_X12_room : cl_X12_room.all (gc_ck gb_lkX12 gb_lnX12 [10, 131, 173] 2) = true := by decide +kernel
theorem gm_213 (hl : l.stackTraces = false) : gc_MM l D cA ad A adV 213 := by
  refine ⟨gb_T213, fun h => absurd h (by decide +kernel), fun as σ o hg => ?_⟩
  have hM : ∀ mid ∈ ([10, 131, 173] : List Nat), gc_MM l D cA ad A adV mid := (List.forall_mem_cons.mpr ⟨gm_10 hl, List.forall_mem_cons.mpr ⟨gm_131 hl, List.forall_mem_cons.mpr ⟨gm_173 hl, fun _ h => nomatch h⟩⟩⟩)
  replace hg : c_X12_room as gaSH σ some = some o := hg
  unfold c_X12_room at hg
  split at hg
  · skip
    rename_i r0 a b
    obtain ⟨hb, hg⟩ := gc_bif hg
    obtain rfl := Nat.eq_of_beq_eq_true hb
    obtain ⟨q, hq, hg⟩ := gc_bind hg
    obtain rfl := Option.some.inj hg
    exact gc_metG (maxL := 5) (lf := true) hl gc_pnX12 rfl gb_oX12 gc_rk_X12_room gb_nX12 hM gc_ck_X12_room (t_X12_room a b σ _ hq) gc_hoI rfl (fun v hv => by cases hv; exact Or.inl rfl) (Nat.le_of_ble_eq_true rfl) rfl
  · cases hg
theorem gc_rk_X12_lessonOfClass : cl_X12_lessonOfClass.all (gb_rk gb_flX12 gb_slX12 gb_nlX12 gb_llX12 gb_tlX12 cX12_lessonOfClass) = true := by decide +kernel
theorem gc_ck_X12_lessonOfClass : cl_X12_lessonOfClass.all (gc_ck gb_lkX12 gb_lnX12 [135, 136, 173, 215] 2) = true := by decide +kernel
theorem gm_216 (hl : l.stackTraces = false) : gc_MM l D cA ad A adV 216 := by
  refine ⟨gb_T216, fun h => absurd h (by decide +kernel), fun as σ o hg => ?_⟩
  have hM : ∀ mid ∈ ([135, 136, 173, 215] : List Nat), gc_MM l D cA ad A adV mid := (List.forall_mem_cons.mpr ⟨gm_135 hl, List.forall_mem_cons.mpr ⟨gm_136 hl, List.forall_mem_cons.mpr ⟨gm_173 hl, List.forall_mem_cons.mpr ⟨gm_215 hl, fun _ h => nomatch h⟩⟩⟩⟩)
  replace hg : c_X12_lessonOfClass as gaSH σ some = some o := hg
  unfold c_X12_lessonOfClass at hg
  split at hg
  · skip
    rename_i r0 a b
    obtain ⟨hb, hg⟩ := gc_bif hg
    obtain rfl := Nat.eq_of_beq_eq_true hb
    obtain ⟨q, hq, hg⟩ := gc_bind hg
    obtain rfl := Option.some.inj hg
    exact gc_metG (maxL := 3) (lf := true) hl gc_pnX12 rfl gb_oX12 gc_rk_X12_lessonOfClass gb_nX12 hM gc_ck_X12_lessonOfClass (t_X12_lessonOfClass a b σ _ hq) gc_hoI rfl (fun v hv => by cases hv; exact Or.inl rfl) (Nat.le_of_ble_eq_true rfl) rfl
  · cases hg
theorem gc_rk_X12_lessonOfTeacher : cl_X12_lessonOfTeacher.all (gb_rk gb_flX12 gb_slX12 gb_nlX12 gb_llX12 gb_tlX12 cX12_lessonOfTeacher) = true := by decide +kernel
theorem gc_ck_X12_lessonOfTeacher : cl_X12_lessonOfTeacher.all (gc_ck gb_lkX12 gb_lnX12 [135, 137, 154, 173] 2) = true := by decide +kernel
theorem gm_217 (hl : l.stackTraces = false) : gc_MM l D cA ad A adV 217 := by
  refine ⟨gb_T217, fun h => absurd h (by decide +kernel), fun as σ o hg => ?_⟩
  have hM : ∀ mid ∈ ([135, 137, 154, 173] : List Nat), gc_MM l D cA ad A adV mid := (List.forall_mem_cons.mpr ⟨gm_135 hl, List.forall_mem_cons.mpr ⟨gm_137 hl, List.forall_mem_cons.mpr ⟨gm_154 hl, List.forall_mem_cons.mpr ⟨gm_173 hl, fun _ h => nomatch h⟩⟩⟩⟩)
  replace hg : c_X12_lessonOfTeacher as gaSH σ some = some o := hg
  unfold c_X12_lessonOfTeacher at hg
  split at hg
  · skip
    rename_i r0 a b
    obtain ⟨hb, hg⟩ := gc_bif hg
    obtain rfl := Nat.eq_of_beq_eq_true hb
    obtain ⟨q, hq, hg⟩ := gc_bind hg
    obtain rfl := Option.some.inj hg
    exact gc_metG (maxL := 3) (lf := true) hl gc_pnX12 rfl gb_oX12 gc_rk_X12_lessonOfTeacher gb_nX12 hM gc_ck_X12_lessonOfTeacher (t_X12_lessonOfTeacher a b σ _ hq) gc_hoI rfl (fun v hv => by cases hv; exact Or.inl rfl) (Nat.le_of_ble_eq_true rfl) rfl
  · cases hg
theorem gc_rk_X12_lessonInRoom : cl_X12_lessonInRoom.all (gb_rk gb_flX12 gb_slX12 gb_nlX12 gb_llX12 gb_tlX12 cX12_lessonInRoom) = true := by decide +kernel
theorem gc_ck_X12_lessonInRoom : cl_X12_lessonInRoom.all (gc_ck gb_lkX12 gb_lnX12 [131, 132, 135, 173] 2) = true := by decide +kernel
theorem gm_218 (hl : l.stackTraces = false) : gc_MM l D cA ad A adV 218 := by
  refine ⟨gb_T218, fun h => absurd h (by decide +kernel), fun as σ o hg => ?_⟩
  have hM : ∀ mid ∈ ([131, 132, 135, 173] : List Nat), gc_MM l D cA ad A adV mid := (List.forall_mem_cons.mpr ⟨gm_131 hl, List.forall_mem_cons.mpr ⟨gm_132 hl, List.forall_mem_cons.mpr ⟨gm_135 hl, List.forall_mem_cons.mpr ⟨gm_173 hl, fun _ h => nomatch h⟩⟩⟩⟩)
  replace hg : c_X12_lessonInRoom as gaSH σ some = some o := hg
  unfold c_X12_lessonInRoom at hg
  split at hg
  · skip
    rename_i r0 a b
    obtain ⟨hb, hg⟩ := gc_bif hg
    obtain rfl := Nat.eq_of_beq_eq_true hb
    obtain ⟨q, hq, hg⟩ := gc_bind hg
    obtain rfl := Option.some.inj hg
    exact gc_metG (maxL := 3) (lf := true) hl gc_pnX12 rfl gb_oX12 gc_rk_X12_lessonInRoom gb_nX12 hM gc_ck_X12_lessonInRoom (t_X12_lessonInRoom a b σ _ hq) gc_hoI rfl (fun v hv => by cases hv; exact Or.inl rfl) (Nat.le_of_ble_eq_true rfl) rfl
  · cases hg
theorem gc_rk_X12_freeTeachers : cl_X12_freeTeachers.all (gb_rk gb_flX12 gb_slX12 gb_nlX12 gb_llX12 gb_tlX12 cX12_freeTeachers) = true := by decide +kernel
theorem gc_ck_X12_freeTeachers : cl_X12_freeTeachers.all (gc_ck gb_lkX12 gb_lnX12 [135, 137, 139, 173] 2) = true := by decide +kernel
theorem gm_219 (hl : l.stackTraces = false) : gc_MM l D cA ad A adV 219 := by
  refine ⟨gb_T219, fun h => absurd h (by decide +kernel), fun as σ o hg => ?_⟩
  have hM : ∀ mid ∈ ([135, 137, 139, 173] : List Nat), gc_MM l D cA ad A adV mid := (List.forall_mem_cons.mpr ⟨gm_135 hl, List.forall_mem_cons.mpr ⟨gm_137 hl, List.forall_mem_cons.mpr ⟨gm_139 hl, List.forall_mem_cons.mpr ⟨gm_173 hl, fun _ h => nomatch h⟩⟩⟩⟩)
  replace hg : c_X12_freeTeachers as gaSH σ some = some o := hg
  unfold c_X12_freeTeachers at hg
  split at hg
  · skip
    rename_i r0 a
    obtain ⟨hb, hg⟩ := gc_bif hg
    obtain rfl := Nat.eq_of_beq_eq_true hb
    obtain ⟨q, hq, hg⟩ := gc_bind hg
    obtain rfl := Option.some.inj hg
    exact gc_metG (maxL := 4) (lf := true) hl gc_pnX12 rfl gb_oX12 gc_rk_X12_freeTeachers gb_nX12 hM gc_ck_X12_freeTeachers (t_X12_freeTeachers a σ _ hq) gc_hoI rfl (fun v hv => by cases hv; exact Or.inl rfl) (Nat.le_of_ble_eq_true rfl) rfl
  · cases hg
theorem gc_rk_X12_freeRooms : cl_X12_freeRooms.all (gb_rk gb_flX12 gb_slX12 gb_nlX12 gb_llX12 gb_tlX12 cX12_freeRooms) = true := by decide +kernel
theorem gc_ck_X12_freeRooms : cl_X12_freeRooms.all (gc_ck gb_lkX12 gb_lnX12 [10, 132, 135, 173] 2) = true := by decide +kernel
theorem gm_220 (hl : l.stackTraces = false) : gc_MM l D cA ad A adV 220 := by
  refine ⟨gb_T220, fun h => absurd h (by decide +kernel), fun as σ o hg => ?_⟩
  have hM : ∀ mid ∈ ([10, 132, 135, 173] : List Nat), gc_MM l D cA ad A adV mid := (List.forall_mem_cons.mpr ⟨gm_10 hl, List.forall_mem_cons.mpr ⟨gm_132 hl, List.forall_mem_cons.mpr ⟨gm_135 hl, List.forall_mem_cons.mpr ⟨gm_173 hl, fun _ h => nomatch h⟩⟩⟩⟩)
  replace hg : c_X12_freeRooms as gaSH σ some = some o := hg
  unfold c_X12_freeRooms at hg
  split at hg
  · skip
    rename_i r0 a b
    obtain ⟨hb, hg⟩ := gc_bif hg
    obtain rfl := Nat.eq_of_beq_eq_true hb
    obtain ⟨q, hq, hg⟩ := gc_bind hg
    obtain rfl := Option.some.inj hg
    exact gc_metG (maxL := 5) (lf := true) hl gc_pnX12 rfl gb_oX12 gc_rk_X12_freeRooms gb_nX12 hM gc_ck_X12_freeRooms (t_X12_freeRooms a b σ _ hq) gc_hoI rfl (fun v hv => by cases hv; exact Or.inl rfl) (Nat.le_of_ble_eq_true rfl) rfl
  · cases hg
theorem gc_rk_X12_openLesson : cl_X12_openLesson.all (gb_rk gb_flX12 gb_slX12 gb_nlX12 gb_llX12 gb_tlX12 cX12_openLesson) = true := by decide +kernel
theorem gc_ck_X12_openLesson : cl_X12_openLesson.all (gc_ck gb_lkX12 gb_lnX12 [173, 221] 2) = true := by decide +kernel
theorem gm_222 (hl : l.stackTraces = false) : gc_MM l D cA ad A adV 222 := by
  refine ⟨gb_T222, fun h => absurd h (by decide +kernel), fun as σ o hg => ?_⟩
  have hM : ∀ mid ∈ ([173, 221] : List Nat), gc_MM l D cA ad A adV mid := (List.forall_mem_cons.mpr ⟨gm_173 hl, List.forall_mem_cons.mpr ⟨gm_221 hl, fun _ h => nomatch h⟩⟩)
  replace hg : c_X12_openLesson as gaSH σ some = some o := hg
  unfold c_X12_openLesson at hg
  split at hg
  · skip
    rename_i r0 a
    obtain ⟨hb, hg⟩ := gc_bif hg
    obtain rfl := Nat.eq_of_beq_eq_true hb
    obtain ⟨q, hq, hg⟩ := gc_bind hg
    obtain rfl := Option.some.inj hg
    exact gc_metG (maxL := 3) (lf := true) hl gc_pnX12 rfl gb_oX12 gc_rk_X12_openLesson gb_nX12 hM gc_ck_X12_openLesson (t_X12_openLesson a σ _ hq) gc_hoI rfl (fun v hv => by cases hv; exact Or.inl rfl) (Nat.le_of_ble_eq_true rfl) rfl
  · cases hg
theorem gc_rk_X12_difference : cl_X12_difference.all (gb_rk gb_flX12 gb_slX12 gb_nlX12 gb_llX12 gb_tlX12 cX12_difference) = true := by decide +kernel
theorem gc_ck_X12_difference : cl_X12_difference.all (gc_ck gb_lkX12 gb_lnX12 [173, 221] 2) = true := by decide +kernel
theorem gm_223 (hl : l.stackTraces = false) : gc_MM l D cA ad A adV 223 := by
  refine ⟨gb_T223, fun h => absurd h (by decide +kernel), fun as σ o hg => ?_⟩
  have hM : ∀ mid ∈ ([173, 221] : List Nat), gc_MM l D cA ad A adV mid := (List.forall_mem_cons.mpr ⟨gm_173 hl, List.forall_mem_cons.mpr ⟨gm_221 hl, fun _ h => nomatch h⟩⟩)
  replace hg : c_X12_difference as gaSH σ some = some o := hg
  unfold c_X12_difference at hg
  split at hg
  · skip
    rename_i r0 a
    obtain ⟨hb, hg⟩ := gc_bif hg
    obtain rfl := Nat.eq_of_beq_eq_true hb
    obtain ⟨q, hq, hg⟩ := gc_bind hg
    obtain rfl := Option.some.inj hg
    exact gc_metG (maxL := 3) (lf := true) hl gc_pnX12 rfl gb_oX12 gc_rk_X12_difference gb_nX12 hM gc_ck_X12_difference (t_X12_difference a σ _ hq) gc_hoI rfl (fun v hv => by cases hv; exact Or.inl rfl) (Nat.le_of_ble_eq_true rfl) rfl
  · cases hg
theorem gc_rk_X3_windowsOf : cl_X3_windowsOf.all (gb_rk gb_flX3 gb_slX3 gb_nlX3 gb_llX3 gb_tlX3 cX3_windowsOf) = true := by decide +kernel
theorem gc_ck_X3_windowsOf : cl_X3_windowsOf.all (gc_ck gb_lkX3 gb_lnX3 [101] 2) = true := by decide +kernel
theorem gm_224 (hl : l.stackTraces = false) : gc_MM l D cA ad A adV 224 := by
  refine ⟨gb_T224, fun h => absurd h (by decide +kernel), fun as σ o hg => ?_⟩
  have hM : ∀ mid ∈ ([101] : List Nat), gc_MM l D cA ad A adV mid := (List.forall_mem_cons.mpr ⟨gm_101 hl, fun _ h => nomatch h⟩)
  replace hg : c_X3_windowsOf as gaSH σ some = some o := hg
  unfold c_X3_windowsOf at hg
  split at hg
  · skip
    rename_i r0 r1 a b
    rcases gc_bif2 hg with ⟨hb, hg⟩ | hg
    · skip
      obtain ⟨hb0, hb1⟩ := Bool.and_eq_true_iff.mp hb
      obtain rfl := Nat.eq_of_beq_eq_true hb0
      obtain rfl := Nat.eq_of_beq_eq_true hb1
      obtain ⟨q, hq, hg⟩ := gc_bind hg
      obtain rfl := Option.some.inj hg
      exact gc_metP (maxL := 8) (lf := true) hl gc_pnX3 rfl gb_oX3 gc_rk_X3_windowsOf gb_nX3 hM gc_ck_X3_windowsOf (t_X3_windowsOf_23 a b σ _ hq) gd_hoI rfl (fun v hv => by cases hv; exact Or.inl rfl) (Nat.le_of_ble_eq_true rfl) rfl
    · skip
      obtain ⟨hb, hg⟩ := gc_bif hg
      obtain ⟨hb0, hb1⟩ := Bool.and_eq_true_iff.mp hb
      obtain rfl := Nat.eq_of_beq_eq_true hb0
      obtain rfl := Nat.eq_of_beq_eq_true hb1
      obtain ⟨q, hq, hg⟩ := gc_bind hg
      obtain rfl := Option.some.inj hg
      exact gc_metP (maxL := 8) (lf := true) hl gc_pnX3 rfl gb_oX3 gc_rk_X3_windowsOf gb_nX3 hM gc_ck_X3_windowsOf (t_X3_windowsOf_10 a b σ _ hq) gd_hoI rfl (fun v hv => by cases hv; exact Or.inl rfl) (Nat.le_of_ble_eq_true rfl) rfl
  · cases hg
theorem gc_rk_X12_windows : cl_X12_windows.all (gb_rk gb_flX12 gb_slX12 gb_nlX12 gb_llX12 gb_tlX12 cX12_windows) = true := by decide +kernel
theorem gc_ck_X12_windows : cl_X12_windows.all (gc_ck gb_lkX12 gb_lnX12 [137, 154, 158, 173, 225] 2) = true := by decide +kernel
theorem gm_226 (hl : l.stackTraces = false) : gc_MM l D cA ad A adV 226 := by
  refine ⟨gb_T226, fun h => absurd h (by decide +kernel), fun as σ o hg => ?_⟩
  have hM : ∀ mid ∈ ([137, 154, 158, 173, 225] : List Nat), gc_MM l D cA ad A adV mid := (List.forall_mem_cons.mpr ⟨gm_137 hl, List.forall_mem_cons.mpr ⟨gm_154 hl, List.forall_mem_cons.mpr ⟨gm_158 hl, List.forall_mem_cons.mpr ⟨gm_173 hl, List.forall_mem_cons.mpr ⟨gm_225 hl, fun _ h => nomatch h⟩⟩⟩⟩⟩)
  replace hg : c_X12_windows as gaSH σ some = some o := hg
  unfold c_X12_windows at hg
  split at hg
  · skip
    rename_i r0 a b
    obtain ⟨hb, hg⟩ := gc_bif hg
    obtain rfl := Nat.eq_of_beq_eq_true hb
    obtain ⟨q, hq, hg⟩ := gc_bind hg
    obtain rfl := Option.some.inj hg
    exact gc_metG (maxL := 5) (lf := true) hl gc_pnX12 rfl gb_oX12 gc_rk_X12_windows gb_nX12 hM gc_ck_X12_windows (t_X12_windows a b σ _ hq) gc_hoI rfl (fun v hv => by cases hv; exact Or.inl rfl) (Nat.le_of_ble_eq_true rfl) rfl
  · cases hg
theorem gc_rk_X12_classWindows : cl_X12_classWindows.all (gb_rk gb_flX12 gb_slX12 gb_nlX12 gb_llX12 gb_tlX12 cX12_classWindows) = true := by decide +kernel
theorem gc_ck_X12_classWindows : cl_X12_classWindows.all (gc_ck gb_lkX12 gb_lnX12 [136, 158, 173, 215, 225] 2) = true := by decide +kernel
theorem gm_227 (hl : l.stackTraces = false) : gc_MM l D cA ad A adV 227 := by
  refine ⟨gb_T227, fun h => absurd h (by decide +kernel), fun as σ o hg => ?_⟩
  have hM : ∀ mid ∈ ([136, 158, 173, 215, 225] : List Nat), gc_MM l D cA ad A adV mid := (List.forall_mem_cons.mpr ⟨gm_136 hl, List.forall_mem_cons.mpr ⟨gm_158 hl, List.forall_mem_cons.mpr ⟨gm_173 hl, List.forall_mem_cons.mpr ⟨gm_215 hl, List.forall_mem_cons.mpr ⟨gm_225 hl, fun _ h => nomatch h⟩⟩⟩⟩⟩)
  replace hg : c_X12_classWindows as gaSH σ some = some o := hg
  unfold c_X12_classWindows at hg
  split at hg
  · skip
    rename_i r0 a b
    obtain ⟨hb, hg⟩ := gc_bif hg
    obtain rfl := Nat.eq_of_beq_eq_true hb
    obtain ⟨q, hq, hg⟩ := gc_bind hg
    obtain rfl := Option.some.inj hg
    exact gc_metG (maxL := 5) (lf := true) hl gc_pnX12 rfl gb_oX12 gc_rk_X12_classWindows gb_nX12 hM gc_ck_X12_classWindows (t_X12_classWindows a b σ _ hq) gc_hoI rfl (fun v hv => by cases hv; exact Or.inl rfl) (Nat.le_of_ble_eq_true rfl) rfl
  · cases hg
theorem gc_rk_X11_spread : cl_X11_spread.all (gb_rk gb_flX11 gb_slX11 gb_nlX11 gb_llX11 gb_tlX11 cX11_spread) = true := by decide +kernel
theorem gc_ck_X11_spread : cl_X11_spread.all (gc_ck gb_lkX11 gb_lnX11 [1, 94] 2) = true := by decide +kernel
theorem gm_229 (hl : l.stackTraces = false) : gc_MM l D cA ad A adV 229 := by
  refine ⟨gb_T229, fun h => absurd h (by decide +kernel), fun as σ o hg => ?_⟩
  have hM : ∀ mid ∈ ([1, 94] : List Nat), gc_MM l D cA ad A adV mid := (List.forall_mem_cons.mpr ⟨gm_1 hl, List.forall_mem_cons.mpr ⟨gm_94 hl, fun _ h => nomatch h⟩⟩)
  replace hg : c_X11_spread as gaSH σ some = some o := hg
  unfold c_X11_spread at hg
  split at hg
  · skip
    rename_i r0
    obtain ⟨hb, hg⟩ := gc_bif hg
    obtain rfl := Nat.eq_of_beq_eq_true hb
    obtain ⟨q, hq, hg⟩ := gc_bind hg
    obtain rfl := Option.some.inj hg
    exact gc_metP (maxL := 6) (lf := true) hl gc_pnX11 rfl gb_oX11 gc_rk_X11_spread gb_nX11 hM gc_ck_X11_spread (t_X11_spread σ _ hq) gd_hoI rfl (fun v hv => by cases hv; exact Or.inl rfl) (Nat.le_of_ble_eq_true rfl) rfl
  · cases hg
theorem gc_rk_X12_taughtShare : cl_X12_taughtShare.all (gb_rk gb_flX12 gb_slX12 gb_nlX12 gb_llX12 gb_tlX12 cX12_taughtShare) = true := by decide +kernel
theorem gc_ck_X12_taughtShare : cl_X12_taughtShare.all (gc_ck gb_lkX12 gb_lnX12 [207, 208] 2) = true := by decide +kernel
theorem gm_233 (hl : l.stackTraces = false) : gc_MM l D cA ad A adV 233 := by
  refine ⟨gb_T233, fun h => absurd h (by decide +kernel), fun as σ o hg => ?_⟩
  have hM : ∀ mid ∈ ([207, 208] : List Nat), gc_MM l D cA ad A adV mid := (List.forall_mem_cons.mpr ⟨gm_207 hl, List.forall_mem_cons.mpr ⟨gm_208 hl, fun _ h => nomatch h⟩⟩)
  replace hg : c_X12_taughtShare as gaSH σ some = some o := hg
  unfold c_X12_taughtShare at hg
  split at hg
  · skip
    rename_i r0
    obtain ⟨hb, hg⟩ := gc_bif hg
    obtain rfl := Nat.eq_of_beq_eq_true hb
    obtain ⟨q, hq, hg⟩ := gc_bind hg
    obtain rfl := Option.some.inj hg
    exact gc_metG (maxL := 2) (lf := true) hl gc_pnX12 rfl gb_oX12 gc_rk_X12_taughtShare gb_nX12 hM gc_ck_X12_taughtShare (t_X12_taughtShare σ _ hq) gc_hoD rfl (fun v hv => by cases hv; rfl) (Nat.le_of_ble_eq_true rfl) rfl
  · cases hg
theorem gc_rk_X5_writeLesson : cl_X5_writeLesson.all (gb_rk gb_flX5 gb_slX5 gb_nlX5 gb_llX5 gb_tlX5 cX5_writeLesson) = true := by decide +kernel
theorem gc_ck_X5_writeLesson : cl_X5_writeLesson.all (gc_ck gb_lkX5 gb_lnX5 [1, 88, 115, 234] 2) = true := by decide +kernel
theorem gm_235 (hl : l.stackTraces = false) : gc_MM l D cA ad A adV 235 := by
  refine ⟨gb_T235, fun h => absurd h (by decide +kernel), fun as σ o hg => ?_⟩
  have hM : ∀ mid ∈ ([1, 88, 115, 234] : List Nat), gc_MM l D cA ad A adV mid := (List.forall_mem_cons.mpr ⟨gm_1 hl, List.forall_mem_cons.mpr ⟨gm_88 hl, List.forall_mem_cons.mpr ⟨gm_115 hl, List.forall_mem_cons.mpr ⟨gm_234 hl, fun _ h => nomatch h⟩⟩⟩⟩)
  replace hg : c_X5_writeLesson as gaSH σ some = some o := hg
  unfold c_X5_writeLesson at hg
  split at hg
  · skip
    rename_i r0 a
    obtain ⟨hb, hg⟩ := gc_bif hg
    obtain rfl := Nat.eq_of_beq_eq_true hb
    obtain rfl := Option.some.inj hg
    exact gc_metG (maxL := 2) (lf := true) hl gc_pnX5 rfl gb_oX5 gc_rk_X5_writeLesson gb_nX5 hM gc_ck_X5_writeLesson (t_X5_writeLesson a σ _ (e_X5_writeLesson a σ)) gc_hoV rfl (fun v hv => by cases hv; rfl) (Nat.le_of_ble_eq_true rfl) rfl
  · cases hg
theorem gc_rk_X12_writeReport : cl_X12_writeReport.all (gb_rk gb_flX12 gb_slX12 gb_nlX12 gb_llX12 gb_tlX12 cX12_writeReport) = true := by decide +kernel
theorem gc_ck_X12_writeReport : cl_X12_writeReport.all (gc_ck gb_lkX12 gb_lnX12 [134, 136, 173, 215, 237, 238] 2) = true := by decide +kernel
theorem gm_239 (hl : l.stackTraces = false) : gc_MM l D cA ad A adV 239 := by
  refine ⟨gb_T239, fun h => absurd h (by decide +kernel), fun as σ o hg => ?_⟩
  have hM : ∀ mid ∈ ([134, 136, 173, 215, 237, 238] : List Nat), gc_MM l D cA ad A adV mid := (List.forall_mem_cons.mpr ⟨gm_134 hl, List.forall_mem_cons.mpr ⟨gm_136 hl, List.forall_mem_cons.mpr ⟨gm_173 hl, List.forall_mem_cons.mpr ⟨gm_215 hl, List.forall_mem_cons.mpr ⟨gm_237 hl, List.forall_mem_cons.mpr ⟨gm_238 hl, fun _ h => nomatch h⟩⟩⟩⟩⟩⟩)
  replace hg : c_X12_writeReport as gaSH σ some = some o := hg
  unfold c_X12_writeReport at hg
  split at hg
  · skip
    rename_i r0 a
    obtain ⟨hb, hg⟩ := gc_bif hg
    obtain rfl := Nat.eq_of_beq_eq_true hb
    obtain ⟨q, hq, hg⟩ := gc_bind hg
    obtain rfl := Option.some.inj hg
    exact gc_metG (maxL := 3) (lf := true) hl gc_pnX12 rfl gb_oX12 gc_rk_X12_writeReport gb_nX12 hM gc_ck_X12_writeReport (t_X12_writeReport a σ _ hq) gc_hoI rfl (fun v hv => by cases hv; exact Or.inl rfl) (Nat.le_of_ble_eq_true rfl) rfl
  · cases hg
theorem gc_rk_X1_restoreLatest : cl_X1_restoreLatest.all (gb_rk gb_flX1 gb_slX1 gb_nlX1 gb_llX1 gb_tlX1 cX1_restoreLatest) = true := by decide +kernel
theorem gc_ck_X1_restoreLatest : cl_X1_restoreLatest.all (gc_ck gb_lkX1 gb_lnX1 [79] 2) = true := by decide +kernel
theorem gm_241 (hl : l.stackTraces = false) : gc_MM l D cA ad A adV 241 := by
  refine ⟨gb_T241, fun h => absurd h (by decide +kernel), fun as σ o hg => ?_⟩
  have hM : ∀ mid ∈ ([79] : List Nat), gc_MM l D cA ad A adV mid := (List.forall_mem_cons.mpr ⟨gm_79 hl, fun _ h => nomatch h⟩)
  replace hg : c_X1_restoreLatest as gaSH σ some = some o := hg
  unfold c_X1_restoreLatest at hg
  split at hg
  · skip
    rename_i r0
    obtain ⟨hb, hg⟩ := gc_bif hg
    obtain rfl := Nat.eq_of_beq_eq_true hb
    obtain ⟨q, hq, hg⟩ := gc_bind hg
    obtain rfl := Option.some.inj hg
    exact gc_metG (maxL := 1) (lf := true) hl gc_pnX1 rfl gb_oX1 gc_rk_X1_restoreLatest gb_nX1 hM gc_ck_X1_restoreLatest (t_X1_restoreLatest σ _ hq) gc_hoV rfl (fun v hv => by cases hv; rfl) (Nat.le_of_ble_eq_true rfl) rfl
  · cases hg
theorem gc_rk_X7_becomeSample : cl_X7_becomeSample.all (gb_rk gb_flX7 gb_slX7 gb_nlX7 gb_llX7 gb_tlX7 cX7_becomeSample) = true := by decide +kernel
theorem gc_ck_X7_becomeSample : cl_X7_becomeSample.all (gc_ck gb_lkX7 gb_lnX7 [12, 29, 31, 35, 43] 2) = true := by decide +kernel
theorem gm_246 (hl : l.stackTraces = false) : gc_MM l D cA ad A adV 246 := by
  refine ⟨gb_T246, fun h => absurd h (by decide +kernel), fun as σ o hg => ?_⟩
  have hM : ∀ mid ∈ ([12, 29, 31, 35, 43] : List Nat), gc_MM l D cA ad A adV mid := (List.forall_mem_cons.mpr ⟨gm_12 hl, List.forall_mem_cons.mpr ⟨gm_29 hl, List.forall_mem_cons.mpr ⟨gm_31 hl, List.forall_mem_cons.mpr ⟨gm_35 hl, List.forall_mem_cons.mpr ⟨gm_43 hl, fun _ h => nomatch h⟩⟩⟩⟩⟩)
  replace hg : c_X7_becomeSample as gaSH σ some = some o := hg
  unfold c_X7_becomeSample at hg
  split at hg
  · skip
    rename_i r0
    obtain ⟨hb, hg⟩ := gc_bif hg
    obtain rfl := Nat.eq_of_beq_eq_true hb
    obtain rfl := Option.some.inj hg
    exact gc_metG (maxL := 1) (lf := true) hl gc_pnX7 rfl gb_oX7 gc_rk_X7_becomeSample gb_nX7 hM gc_ck_X7_becomeSample (t_X7_becomeSample σ _ (e_X7_becomeSample σ)) gc_hoV rfl (fun v hv => by cases hv; rfl) (Nat.le_of_ble_eq_true rfl) rfl
  · cases hg
theorem gc_rk_X11_appendText : cl_X11_appendText.all (gb_rk gb_flX11 gb_slX11 gb_nlX11 gb_llX11 gb_tlX11 cX11_appendText) = true := by decide +kernel
theorem gc_ck_X11_appendText : cl_X11_appendText.all (gc_ck gb_lkX11 gb_lnX11 [6] 2) = true := by decide +kernel
theorem gm_400 (hl : l.stackTraces = false) : gc_MM l D cA ad A adV 400 := by
  refine ⟨gb_T400, fun h => absurd h (by decide +kernel), fun as σ o hg => ?_⟩
  have hM : ∀ mid ∈ ([6] : List Nat), gc_MM l D cA ad A adV mid := (List.forall_mem_cons.mpr ⟨gm_6 hl, fun _ h => nomatch h⟩)
  replace hg : c_X11_appendText as gaSH σ some = some o := hg
  unfold c_X11_appendText at hg
  split at hg
  · skip
    rename_i r0 a b c d e
    obtain ⟨hb, hg⟩ := gc_bif hg
    obtain rfl := Nat.eq_of_beq_eq_true hb
    obtain ⟨q, hq, hg⟩ := gc_bind hg
    obtain ⟨q, s1⟩ := q
    cases q with
    | inl x =>
      obtain rfl := Option.some.inj hg
      exact gc_metG (maxL := 6) (lf := true) hl gc_pnX11 rfl gb_oX11 gc_rk_X11_appendText gb_nX11 hM gc_ck_X11_appendText (t_X11_appendText a b c d e σ _ hq) gc_hoIXl rfl (fun v hv => by cases hv; exact Or.inl rfl) (Nat.le_of_ble_eq_true rfl) rfl
    | inr E =>
      obtain rfl := Option.some.inj hg
      exact gc_metG (maxL := 6) (lf := true) hl gc_pnX11 rfl gb_oX11 gc_rk_X11_appendText gb_nX11 hM gc_ck_X11_appendText (t_X11_appendText a b c d e σ _ hq) gc_hoIXr rfl (fun v hv => by cases hv) (Nat.le_of_ble_eq_true rfl) rfl
  · cases hg
theorem gc_rk_X11_requireSlot : cl_X11_requireSlot.all (gb_rk gb_flX11 gb_slX11 gb_nlX11 gb_llX11 gb_tlX11 cX11_requireSlot) = true := by decide +kernel
theorem gc_ck_X11_requireSlot : cl_X11_requireSlot.all (gc_ck gb_lkX11 gb_lnX11 [107] 2) = true := by decide +kernel
theorem gm_411 (hl : l.stackTraces = false) : gc_MM l D cA ad A adV 411 := by
  refine ⟨gb_T411, fun h => absurd h (by decide +kernel), fun as σ o hg => ?_⟩
  have hM : ∀ mid ∈ ([107] : List Nat), gc_MM l D cA ad A adV mid := (List.forall_mem_cons.mpr ⟨gm_107 hl, fun _ h => nomatch h⟩)
  replace hg : c_X11_requireSlot as gaSH σ some = some o := hg
  unfold c_X11_requireSlot at hg
  split at hg
  · skip
    rename_i r0 a
    obtain ⟨hb, hg⟩ := gc_bif hg
    obtain rfl := Nat.eq_of_beq_eq_true hb
    have hT := t_X11_requireSlot a σ _ (e_X11_requireSlot a σ)
    generalize v_X11_requireSlot a σ = q at hg hT
    cases q with
    | none =>
      obtain rfl := Option.some.inj hg
      exact gc_metP (maxL := 2) (lf := true) hl gc_pnX11 rfl gb_oX11 gc_rk_X11_requireSlot gb_nX11 hM gc_ck_X11_requireSlot (hT) gd_hoVXl rfl (fun v hv => by cases hv; rfl) (Nat.le_of_ble_eq_true rfl) rfl
    | some E =>
      obtain rfl := Option.some.inj hg
      exact gc_metP (maxL := 2) (lf := true) hl gc_pnX11 rfl gb_oX11 gc_rk_X11_requireSlot gb_nX11 hM gc_ck_X11_requireSlot (hT) gd_hoVXr rfl (fun v hv => by cases hv) (Nat.le_of_ble_eq_true rfl) rfl
  · cases hg
theorem gc_rk_X11_room : cl_X11_room.all (gb_rk gb_flX11 gb_slX11 gb_nlX11 gb_llX11 gb_tlX11 cX11_room) = true := by decide +kernel
theorem gc_ck_X11_room : cl_X11_room.all (gc_ck gb_lkX11 gb_lnX11 [1, 204, 413] 2) = true := by decide +kernel
theorem gm_430 (hl : l.stackTraces = false) : gc_MM l D cA ad A adV 430 := by
  refine ⟨gb_T430, fun h => absurd h (by decide +kernel), fun as σ o hg => ?_⟩
  have hM : ∀ mid ∈ ([1, 204, 413] : List Nat), gc_MM l D cA ad A adV mid := (List.forall_mem_cons.mpr ⟨gm_1 hl, List.forall_mem_cons.mpr ⟨gm_204 hl, List.forall_mem_cons.mpr ⟨gm_413 hl, fun _ h => nomatch h⟩⟩⟩)
  replace hg : c_X11_room as gaSH σ some = some o := hg
  unfold c_X11_room at hg
  split at hg
  · skip
    rename_i r0 a b
    obtain ⟨hb, hg⟩ := gc_bif hg
    obtain rfl := Nat.eq_of_beq_eq_true hb
    obtain ⟨q, hq, hg⟩ := gc_bind hg
    cases q with
    | inl x =>
      obtain rfl := Option.some.inj hg
      exact gc_metP (maxL := 3) (lf := true) hl gc_pnX11 rfl gb_oX11 gc_rk_X11_room gb_nX11 hM gc_ck_X11_room (t_X11_room a b σ _ hq) gd_hoIXl rfl (fun v hv => by cases hv; exact Or.inl rfl) (Nat.le_of_ble_eq_true rfl) rfl
    | inr E =>
      obtain rfl := Option.some.inj hg
      exact gc_metP (maxL := 3) (lf := true) hl gc_pnX11 rfl gb_oX11 gc_rk_X11_room gb_nX11 hM gc_ck_X11_room (t_X11_room a b σ _ hq) gd_hoIXr rfl (fun v hv => by cases hv) (Nat.le_of_ble_eq_true rfl) rfl
  · cases hg
theorem gc_rk_X11_subject : cl_X11_subject.all (gb_rk gb_flX11 gb_slX11 gb_nlX11 gb_llX11 gb_tlX11 cX11_subject) = true := by decide +kernel
theorem gc_ck_X11_subject : cl_X11_subject.all (gc_ck gb_lkX11 gb_lnX11 [1, 92, 204] 2) = true := by decide +kernel
theorem gm_431 (hl : l.stackTraces = false) : gc_MM l D cA ad A adV 431 := by
  refine ⟨gb_T431, fun h => absurd h (by decide +kernel), fun as σ o hg => ?_⟩
  have hM : ∀ mid ∈ ([1, 92, 204] : List Nat), gc_MM l D cA ad A adV mid := (List.forall_mem_cons.mpr ⟨gm_1 hl, List.forall_mem_cons.mpr ⟨gm_92 hl, List.forall_mem_cons.mpr ⟨gm_204 hl, fun _ h => nomatch h⟩⟩⟩)
  replace hg : c_X11_subject as gaSH σ some = some o := hg
  unfold c_X11_subject at hg
  split at hg
  · skip
    rename_i r0 a b
    obtain ⟨hb, hg⟩ := gc_bif hg
    obtain rfl := Nat.eq_of_beq_eq_true hb
    obtain ⟨q, hq, hg⟩ := gc_bind hg
    cases q with
    | inl x =>
      obtain rfl := Option.some.inj hg
      exact gc_metP (maxL := 3) (lf := true) hl gc_pnX11 rfl gb_oX11 gc_rk_X11_subject gb_nX11 hM gc_ck_X11_subject (t_X11_subject a b σ _ hq) gd_hoIXl rfl (fun v hv => by cases hv; exact Or.inl rfl) (Nat.le_of_ble_eq_true rfl) rfl
    | inr E =>
      obtain rfl := Option.some.inj hg
      exact gc_metP (maxL := 3) (lf := true) hl gc_pnX11 rfl gb_oX11 gc_rk_X11_subject gb_nX11 hM gc_ck_X11_subject (t_X11_subject a b σ _ hq) gd_hoIXr rfl (fun v hv => by cases hv) (Nat.le_of_ble_eq_true rfl) rfl
  · cases hg
theorem gc_rk_X11_openLesson : cl_X11_openLesson.all (gb_rk gb_flX11 gb_slX11 gb_nlX11 gb_llX11 gb_tlX11 cX11_openLesson) = true := by decide +kernel
theorem gc_ck_X11_openLesson : cl_X11_openLesson.all (gc_ck gb_lkX11 gb_lnX11 [88] 2) = true := by decide +kernel
theorem gm_438 (hl : l.stackTraces = false) : gc_MM l D cA ad A adV 438 := by
  refine ⟨gb_T438, fun h => absurd h (by decide +kernel), fun as σ o hg => ?_⟩
  have hM : ∀ mid ∈ ([88] : List Nat), gc_MM l D cA ad A adV mid := (List.forall_mem_cons.mpr ⟨gm_88 hl, fun _ h => nomatch h⟩)
  replace hg : c_X11_openLesson as gaSH σ some = some o := hg
  unfold c_X11_openLesson at hg
  split at hg
  · skip
    rename_i r0 a
    obtain ⟨hb, hg⟩ := gc_bif hg
    obtain rfl := Nat.eq_of_beq_eq_true hb
    obtain ⟨q, hq, hg⟩ := gc_bind hg
    cases q with
    | inl x =>
      obtain rfl := Option.some.inj hg
      exact gc_metP (maxL := 4) (lf := true) hl gc_pnX11 rfl gb_oX11 gc_rk_X11_openLesson gb_nX11 hM gc_ck_X11_openLesson (t_X11_openLesson a σ _ hq) gd_hoIXl rfl (fun v hv => by cases hv; exact Or.inl rfl) (Nat.le_of_ble_eq_true rfl) rfl
    | inr E =>
      obtain rfl := Option.some.inj hg
      exact gc_metP (maxL := 4) (lf := true) hl gc_pnX11 rfl gb_oX11 gc_rk_X11_openLesson gb_nX11 hM gc_ck_X11_openLesson (t_X11_openLesson a σ _ hq) gd_hoIXr rfl (fun v hv => by cases hv) (Nat.le_of_ble_eq_true rfl) rfl
  · cases hg
theorem gc_rk_X10_begin : cl_X10_begin.all (gb_rk gb_flX10 gb_slX10 gb_nlX10 gb_llX10 gb_tlX10 cX10_begin) = true := by decide +kernel
theorem gc_ck_X10_begin : cl_X10_begin.all (gc_ck gb_lkX10 gb_lnX10 [19] 3) = true := by decide +kernel
theorem gm_20 (hl : l.stackTraces = false) : gc_MM l D cA ad A adV 20 := by
  refine ⟨gb_T20, fun h => absurd h (by decide +kernel), fun as σ o hg => ?_⟩
  have hM : ∀ mid ∈ ([19] : List Nat), gc_MM l D cA ad A adV mid := (List.forall_mem_cons.mpr ⟨gm_19 hl, fun _ h => nomatch h⟩)
  replace hg : c_X10_begin as gaSH σ some = some o := hg
  unfold c_X10_begin at hg
  split at hg
  · skip
    rename_i r0
    obtain ⟨hb, hg⟩ := gc_bif hg
    obtain rfl := Nat.eq_of_beq_eq_true hb
    obtain ⟨q, hq, hg⟩ := gc_bind hg
    obtain rfl := Option.some.inj hg
    exact gc_metG (maxL := 1) (lf := true) hl gc_pnX10 rfl gb_oX10 gc_rk_X10_begin gb_nX10 hM gc_ck_X10_begin (t_X10_begin σ _ hq) gc_hoV rfl (fun v hv => by cases hv; rfl) (Nat.le_of_ble_eq_true rfl) rfl
  · cases hg
theorem gc_rk_X8_takeNumber : cl_X8_takeNumber.all (gb_rk gb_flX8 gb_slX8 gb_nlX8 gb_llX8 gb_tlX8 cX8_takeNumber) = true := by decide +kernel
theorem gc_ck_X8_takeNumber : cl_X8_takeNumber.all (gc_ck gb_lkX8 gb_lnX8 [19] 3) = true := by decide +kernel
theorem gm_26 (hl : l.stackTraces = false) : gc_MM l D cA ad A adV 26 := by
  refine ⟨gb_T26, fun h => absurd h (by decide +kernel), fun as σ o hg => ?_⟩
  have hM : ∀ mid ∈ ([19] : List Nat), gc_MM l D cA ad A adV mid := (List.forall_mem_cons.mpr ⟨gm_19 hl, fun _ h => nomatch h⟩)
  replace hg : c_X8_takeNumber as gaSH σ some = some o := hg
  unfold c_X8_takeNumber at hg
  split at hg
  · skip
    rename_i r0
    obtain ⟨hb, hg⟩ := gc_bif hg
    obtain rfl := Nat.eq_of_beq_eq_true hb
    obtain ⟨q, hq, hg⟩ := gc_bind hg
    obtain rfl := Option.some.inj hg
    exact gc_metG (maxL := 2) (lf := true) hl gc_pnX8 rfl gb_oX8 gc_rk_X8_takeNumber gb_nX8 hM gc_ck_X8_takeNumber (t_X8_takeNumber σ _ hq) gc_hoI rfl (fun v hv => by cases hv; exact Or.inl rfl) (Nat.le_of_ble_eq_true rfl) rfl
  · cases hg
theorem gc_rk_X8_takeSemicolon : cl_X8_takeSemicolon.all (gb_rk gb_flX8 gb_slX8 gb_nlX8 gb_llX8 gb_tlX8 cX8_takeSemicolon) = true := by decide +kernel
theorem gc_ck_X8_takeSemicolon : cl_X8_takeSemicolon.all (gc_ck gb_lkX8 gb_lnX8 [19, 23] 3) = true := by decide +kernel
theorem gm_27 (hl : l.stackTraces = false) : gc_MM l D cA ad A adV 27 := by
  refine ⟨gb_T27, fun h => absurd h (by decide +kernel), fun as σ o hg => ?_⟩
  have hM : ∀ mid ∈ ([19, 23] : List Nat), gc_MM l D cA ad A adV mid := (List.forall_mem_cons.mpr ⟨gm_19 hl, List.forall_mem_cons.mpr ⟨gm_23 hl, fun _ h => nomatch h⟩⟩)
  replace hg : c_X8_takeSemicolon as gaSH σ some = some o := hg
  unfold c_X8_takeSemicolon at hg
  split at hg
  · skip
    rename_i r0
    obtain ⟨hb, hg⟩ := gc_bif hg
    obtain rfl := Nat.eq_of_beq_eq_true hb
    obtain ⟨q, hq, hg⟩ := gc_bind hg
    obtain rfl := Option.some.inj hg
    exact gc_metG (maxL := 1) (lf := true) hl gc_pnX8 rfl gb_oX8 gc_rk_X8_takeSemicolon gb_nX8 hM gc_ck_X8_takeSemicolon (t_X8_takeSemicolon σ _ hq) gc_hoI rfl (fun v hv => by cases hv; exact Or.inr ⟨rfl, z_X8_takeSemicolon σ _ hq⟩) (Nat.le_of_ble_eq_true rfl) rfl
  · cases hg
theorem gc_rk_X8_checkUntaken : cl_X8_checkUntaken.all (gb_rk gb_flX8 gb_slX8 gb_nlX8 gb_llX8 gb_tlX8 cX8_checkUntaken) = true := by decide +kernel
theorem gc_ck_X8_checkUntaken : cl_X8_checkUntaken.all (gc_ck gb_lkX8 gb_lnX8 [23, 25, 39] 3) = true := by decide +kernel
theorem gm_40 (hl : l.stackTraces = false) : gc_MM l D cA ad A adV 40 := by
  refine ⟨gb_T40, fun h => absurd h (by decide +kernel), fun as σ o hg => ?_⟩
  have hM : ∀ mid ∈ ([23, 25, 39] : List Nat), gc_MM l D cA ad A adV mid := (List.forall_mem_cons.mpr ⟨gm_23 hl, List.forall_mem_cons.mpr ⟨gm_25 hl, List.forall_mem_cons.mpr ⟨gm_39 hl, fun _ h => nomatch h⟩⟩⟩)
  replace hg : c_X8_checkUntaken as gaSH σ some = some o := hg
  unfold c_X8_checkUntaken at hg
  split at hg
  · skip
    rename_i r0 a r1 b
    rcases gc_bif2 hg with ⟨hb, hg⟩ | hg
    · skip
      obtain ⟨hb0, hb1⟩ := Bool.and_eq_true_iff.mp hb
      obtain rfl := Nat.eq_of_beq_eq_true hb0
      obtain rfl := Nat.eq_of_beq_eq_true hb1
      obtain ⟨q, hq, hg⟩ := gc_bind hg
      obtain rfl := Option.some.inj hg
      exact gc_metG (maxL := 4) (lf := true) hl gc_pnX8 rfl gb_oX8 gc_rk_X8_checkUntaken gb_nX8 hM gc_ck_X8_checkUntaken (t_X8_checkUntaken_58 a b σ _ hq) gc_hoI rfl (fun v hv => by cases hv; exact Or.inr ⟨rfl, z_X8_checkUntaken_58 a b σ _ hq⟩) (Nat.le_of_ble_eq_true rfl) rfl
    · skip
      rcases gc_bif2 hg with ⟨hb, hg⟩ | hg
      · skip
        obtain ⟨hb0, hb1⟩ := Bool.and_eq_true_iff.mp hb
        obtain rfl := Nat.eq_of_beq_eq_true hb0
        obtain rfl := Nat.eq_of_beq_eq_true hb1
        obtain ⟨q, hq, hg⟩ := gc_bind hg
        obtain rfl := Option.some.inj hg
        exact gc_metG (maxL := 4) (lf := true) hl gc_pnX8 rfl gb_oX8 gc_rk_X8_checkUntaken gb_nX8 hM gc_ck_X8_checkUntaken (t_X8_checkUntaken_64 a b σ _ hq) gc_hoI rfl (fun v hv => by cases hv; exact Or.inr ⟨rfl, z_X8_checkUntaken_64 a b σ _ hq⟩) (Nat.le_of_ble_eq_true rfl) rfl
      · skip
        obtain ⟨hb, hg⟩ := gc_bif hg
        obtain ⟨hb0, hb1⟩ := Bool.and_eq_true_iff.mp hb
        obtain rfl := Nat.eq_of_beq_eq_true hb0
        obtain rfl := Nat.eq_of_beq_eq_true hb1
        obtain ⟨q, hq, hg⟩ := gc_bind hg
        obtain rfl := Option.some.inj hg
        exact gc_metG (maxL := 4) (lf := true) hl gc_pnX8 rfl gb_oX8 gc_rk_X8_checkUntaken gb_nX8 hM gc_ck_X8_checkUntaken (t_X8_checkUntaken_66 a b σ _ hq) gc_hoI rfl (fun v hv => by cases hv; exact Or.inr ⟨rfl, z_X8_checkUntaken_66 a b σ _ hq⟩) (Nat.le_of_ble_eq_true rfl) rfl
  · cases hg
theorem gc_rk_X3_returnToFirst : cl_X3_returnToFirst.all (gb_rk gb_flX3 gb_slX3 gb_nlX3 gb_llX3 gb_tlX3 cX3_returnToFirst) = true := by decide +kernel
theorem gc_ck_X3_returnToFirst : cl_X3_returnToFirst.all (gc_ck gb_lkX3 gb_lnX3 [1, 2, 50] 3) = true := by decide +kernel
theorem gm_51 (hl : l.stackTraces = false) : gc_MM l D cA ad A adV 51 := by
  refine ⟨gb_T51, fun h => absurd h (by decide +kernel), fun as σ o hg => ?_⟩
  have hM : ∀ mid ∈ ([1, 2, 50] : List Nat), gc_MM l D cA ad A adV mid := (List.forall_mem_cons.mpr ⟨gm_1 hl, List.forall_mem_cons.mpr ⟨gm_2 hl, List.forall_mem_cons.mpr ⟨gm_50 hl, fun _ h => nomatch h⟩⟩⟩)
  replace hg : c_X3_returnToFirst as gaSH σ some = some o := hg
  unfold c_X3_returnToFirst at hg
  split at hg
  · skip
    rename_i r0
    obtain ⟨hb, hg⟩ := gc_bif hg
    obtain rfl := Nat.eq_of_beq_eq_true hb
    obtain ⟨q, hq, hg⟩ := gc_bind hg
    obtain rfl := Option.some.inj hg
    exact gc_metG (maxL := 4) (lf := true) hl gc_pnX3 rfl gb_oX3 gc_rk_X3_returnToFirst gb_nX3 hM gc_ck_X3_returnToFirst (t_X3_returnToFirst σ _ hq) gc_hoV rfl (fun v hv => by cases hv; rfl) (Nat.le_of_ble_eq_true rfl) rfl
  · cases hg
theorem gc_rk_X12_begin : cl_X12_begin.all (gb_rk gb_flX12 gb_slX12 gb_nlX12 gb_llX12 gb_tlX12 cX12_begin) = true := by decide +kernel
theorem gc_ck_X12_begin : cl_X12_begin.all (gc_ck gb_lkX12 gb_lnX12 [58] 3) = true := by decide +kernel
theorem gm_59 (hl : l.stackTraces = false) : gc_MM l D cA ad A adV 59 := by
  refine ⟨gb_T59, fun h => absurd h (by decide +kernel), fun as σ o hg => ?_⟩
  have hM : ∀ mid ∈ ([58] : List Nat), gc_MM l D cA ad A adV mid := (List.forall_mem_cons.mpr ⟨gm_58 hl, fun _ h => nomatch h⟩)
  replace hg : c_X12_begin as gaSH σ some = some o := hg
  unfold c_X12_begin at hg
  split at hg
  · skip
    rename_i r0
    obtain ⟨hb, hg⟩ := gc_bif hg
    obtain rfl := Nat.eq_of_beq_eq_true hb
    obtain ⟨q, hq, hg⟩ := gc_bind hg
    obtain rfl := Option.some.inj hg
    exact gc_metG (maxL := 1) (lf := true) hl gc_pnX12 rfl gb_oX12 gc_rk_X12_begin gb_nX12 hM gc_ck_X12_begin (t_X12_begin σ _ hq) gc_hoV rfl (fun v hv => by cases hv; rfl) (Nat.le_of_ble_eq_true rfl) rfl
  · cases hg
theorem gc_rk_X12_goOn : cl_X12_goOn.all (gb_rk gb_flX12 gb_slX12 gb_nlX12 gb_llX12 gb_tlX12 cX12_goOn) = true := by decide +kernel
theorem gc_ck_X12_goOn : cl_X12_goOn.all (gc_ck gb_lkX12 gb_lnX12 [58] 3) = true := by decide +kernel
theorem gm_61 (hl : l.stackTraces = false) : gc_MM l D cA ad A adV 61 := by
  refine ⟨gb_T61, fun h => absurd h (by decide +kernel), fun as σ o hg => ?_⟩
  have hM : ∀ mid ∈ ([58] : List Nat), gc_MM l D cA ad A adV mid := (List.forall_mem_cons.mpr ⟨gm_58 hl, fun _ h => nomatch h⟩)
  replace hg : c_X12_goOn as gaSH σ some = some o := hg
  unfold c_X12_goOn at hg
  split at hg
  · skip
    rename_i r0
    obtain ⟨hb, hg⟩ := gc_bif hg
    obtain rfl := Nat.eq_of_beq_eq_true hb
    obtain ⟨q, hq, hg⟩ := gc_bind hg
    obtain rfl := Option.some.inj hg
    exact gc_metG (maxL := 1) (lf := true) hl gc_pnX12 rfl gb_oX12 gc_rk_X12_goOn gb_nX12 hM gc_ck_X12_goOn (t_X12_goOn σ _ hq) gc_hoV rfl (fun v hv => by cases hv; rfl) (Nat.le_of_ble_eq_true rfl) rfl
  · cases hg
theorem gc_rk_X0_find : cl_X0_find.all (gb_rk gb_flX0 gb_slX0 gb_nlX0 gb_llX0 gb_tlX0 cX0_find) = true := by decide +kernel
theorem gc_ck_X0_find : cl_X0_find.all (gc_ck gb_lkX0 gb_lnX0 [1, 2, 88, 90, 92, 93, 95, 96, 99] 3) = true := by decide +kernel
theorem gm_100 (hl : l.stackTraces = false) : gc_MM l D cA ad A adV 100 := by
  refine ⟨gb_T100, fun h => absurd h (by decide +kernel), fun as σ o hg => ?_⟩
  have hM : ∀ mid ∈ ([1, 2, 88, 90, 92, 93, 95, 96, 99] : List Nat), gc_MM l D cA ad A adV mid := (List.forall_mem_cons.mpr ⟨gm_1 hl, List.forall_mem_cons.mpr ⟨gm_2 hl, List.forall_mem_cons.mpr ⟨gm_88 hl, List.forall_mem_cons.mpr ⟨gm_90 hl, List.forall_mem_cons.mpr ⟨gm_92 hl, List.forall_mem_cons.mpr ⟨gm_93 hl, List.forall_mem_cons.mpr ⟨gm_95 hl, List.forall_mem_cons.mpr ⟨gm_96 hl, List.forall_mem_cons.mpr ⟨gm_99 hl, fun _ h => nomatch h⟩⟩⟩⟩⟩⟩⟩⟩⟩)
  replace hg : c_X0_find as gaSH σ some = some o := hg
  unfold c_X0_find at hg
  split at hg
  · skip
    rename_i r0 a
    obtain ⟨hb, hg⟩ := gc_bif hg
    obtain rfl := Nat.eq_of_beq_eq_true hb
    obtain ⟨q, hq, hg⟩ := gc_bind hg
    obtain rfl := Option.some.inj hg
    exact gc_metG (maxL := 8) (lf := true) hl gc_pnX0 rfl gb_oX0 gc_rk_X0_find gb_nX0 hM gc_ck_X0_find (t_X0_find a σ _ hq) gc_hoI rfl (fun v hv => by cases hv; exact Or.inl rfl) (Nat.le_of_ble_eq_true rfl) rfl
  · cases hg
theorem gc_rk_X2_moveToRoom : cl_X2_moveToRoom.all (gb_rk gb_flX2 gb_slX2 gb_nlX2 gb_llX2 gb_tlX2 cX2_moveToRoom) = true := by decide +kernel
theorem gc_ck_X2_moveToRoom : cl_X2_moveToRoom.all (gc_ck gb_lkX2 gb_lnX2 [2, 105] 3) = true := by decide +kernel
theorem gm_106 (hl : l.stackTraces = false) : gc_MM l D cA ad A adV 106 := by
  refine ⟨gb_T106, fun h => absurd h (by decide +kernel), fun as σ o hg => ?_⟩
  have hM : ∀ mid ∈ ([2, 105] : List Nat), gc_MM l D cA ad A adV mid := (List.forall_mem_cons.mpr ⟨gm_2 hl, List.forall_mem_cons.mpr ⟨gm_105 hl, fun _ h => nomatch h⟩⟩)
  replace hg : c_X2_moveToRoom as gaSH σ some = some o := hg
  unfold c_X2_moveToRoom at hg
  split at hg
  · skip
    rename_i r0 a b
    obtain ⟨hb, hg⟩ := gc_bif hg
    obtain rfl := Nat.eq_of_beq_eq_true hb
    obtain ⟨q, hq, hg⟩ := gc_bind hg
    obtain rfl := Option.some.inj hg
    exact gc_metG (maxL := 3) (lf := true) hl gc_pnX2 rfl gb_oX2 gc_rk_X2_moveToRoom gb_nX2 hM gc_ck_X2_moveToRoom (t_X2_moveToRoom a b σ _ hq) gc_hoI rfl (fun v hv => by cases hv; exact Or.inr ⟨rfl, z_X2_moveToRoom a b σ _ hq⟩) (Nat.le_of_ble_eq_true rfl) rfl
  · cases hg
theorem gc_rk_X4_isTeacherAwayAt : cl_X4_isTeacherAwayAt.all (gb_rk gb_flX4 gb_slX4 gb_nlX4 gb_llX4 gb_tlX4 cX4_isTeacherAwayAt) = true := by decide +kernel
theorem gc_ck_X4_isTeacherAwayAt : cl_X4_isTeacherAwayAt.all (gc_ck gb_lkX4 gb_lnX4 [1, 50] 3) = true := by decide +kernel
theorem gm_109 (hl : l.stackTraces = false) : gc_MM l D cA ad A adV 109 := by
  refine ⟨gb_T109, fun h => absurd h (by decide +kernel), fun as σ o hg => ?_⟩
  have hM : ∀ mid ∈ ([1, 50] : List Nat), gc_MM l D cA ad A adV mid := (List.forall_mem_cons.mpr ⟨gm_1 hl, List.forall_mem_cons.mpr ⟨gm_50 hl, fun _ h => nomatch h⟩⟩)
  replace hg : c_X4_isTeacherAwayAt as gaSH σ some = some o := hg
  unfold c_X4_isTeacherAwayAt at hg
  split at hg
  · skip
    rename_i r0 a b
    obtain ⟨hb, hg⟩ := gc_bif hg
    obtain rfl := Nat.eq_of_beq_eq_true hb
    obtain ⟨q, hq, hg⟩ := gc_bind hg
    obtain rfl := Option.some.inj hg
    exact gc_metP (maxL := 3) (lf := true) hl gc_pnX4 rfl gb_oX4 gc_rk_X4_isTeacherAwayAt gb_nX4 hM gc_ck_X4_isTeacherAwayAt (t_X4_isTeacherAwayAt a b σ _ hq) gd_hoI rfl (fun v hv => by cases hv; exact Or.inr ⟨rfl, z_X4_isTeacherAwayAt a b σ _ hq⟩) (Nat.le_of_ble_eq_true rfl) rfl
  · cases hg
theorem gc_rk_X4_againstSupervision : cl_X4_againstSupervision.all (gb_rk gb_flX4 gb_slX4 gb_nlX4 gb_llX4 gb_tlX4 cX4_againstSupervision) = true := by decide +kernel
theorem gc_ck_X4_againstSupervision : cl_X4_againstSupervision.all (gc_ck gb_lkX4 gb_lnX4 [1, 48, 50, 88, 108, 116] 3) = true := by decide +kernel
theorem gm_117 (hl : l.stackTraces = false) : gc_MM l D cA ad A adV 117 := by
  refine ⟨gb_T117, fun h => absurd h (by decide +kernel), fun as σ o hg => ?_⟩
  have hM : ∀ mid ∈ ([1, 48, 50, 88, 108, 116] : List Nat), gc_MM l D cA ad A adV mid := (List.forall_mem_cons.mpr ⟨gm_1 hl, List.forall_mem_cons.mpr ⟨gm_48 hl, List.forall_mem_cons.mpr ⟨gm_50 hl, List.forall_mem_cons.mpr ⟨gm_88 hl, List.forall_mem_cons.mpr ⟨gm_108 hl, List.forall_mem_cons.mpr ⟨gm_116 hl, fun _ h => nomatch h⟩⟩⟩⟩⟩⟩)
  replace hg : c_X4_againstSupervision as gaSH σ some = some o := hg
  unfold c_X4_againstSupervision at hg
  split at hg
  · skip
    rename_i r0 a b
    obtain ⟨hb, hg⟩ := gc_bif hg
    obtain rfl := Nat.eq_of_beq_eq_true hb
    obtain ⟨q, hq, hg⟩ := gc_bind hg
    obtain rfl := Option.some.inj hg
    exact gc_metP (maxL := 4) (lf := true) hl gc_pnX4 rfl gb_oX4 gc_rk_X4_againstSupervision gb_nX4 hM gc_ck_X4_againstSupervision (t_X4_againstSupervision a b σ _ hq) gd_hoI rfl (fun v hv => by cases hv; exact Or.inl rfl) (Nat.le_of_ble_eq_true rfl) rfl
  · cases hg
theorem gc_rk_X4_againstCover : cl_X4_againstCover.all (gb_rk gb_flX4 gb_slX4 gb_nlX4 gb_llX4 gb_tlX4 cX4_againstCover) = true := by decide +kernel
theorem gc_ck_X4_againstCover : cl_X4_againstCover.all (gc_ck gb_lkX4 gb_lnX4 [1, 42, 50, 91, 94, 108] 3) = true := by decide +kernel
theorem gm_120 (hl : l.stackTraces = false) : gc_MM l D cA ad A adV 120 := by
  refine ⟨gb_T120, fun h => absurd h (by decide +kernel), fun as σ o hg => ?_⟩
  have hM : ∀ mid ∈ ([1, 42, 50, 91, 94, 108] : List Nat), gc_MM l D cA ad A adV mid := (List.forall_mem_cons.mpr ⟨gm_1 hl, List.forall_mem_cons.mpr ⟨gm_42 hl, List.forall_mem_cons.mpr ⟨gm_50 hl, List.forall_mem_cons.mpr ⟨gm_91 hl, List.forall_mem_cons.mpr ⟨gm_94 hl, List.forall_mem_cons.mpr ⟨gm_108 hl, fun _ h => nomatch h⟩⟩⟩⟩⟩⟩)
  replace hg : c_X4_againstCover as gaSH σ some = some o := hg
  unfold c_X4_againstCover at hg
  split at hg
  · skip
    rename_i r0 a b
    obtain ⟨hb, hg⟩ := gc_bif hg
    obtain rfl := Nat.eq_of_beq_eq_true hb
    obtain ⟨q, hq, hg⟩ := gc_bind hg
    obtain rfl := Option.some.inj hg
    exact gc_metP (maxL := 4) (lf := true) hl gc_pnX4 rfl gb_oX4 gc_rk_X4_againstCover gb_nX4 hM gc_ck_X4_againstCover (t_X4_againstCover a b σ _ hq) gd_hoI rfl (fun v hv => by cases hv; exact Or.inl rfl) (Nat.le_of_ble_eq_true rfl) rfl
  · cases hg
theorem gc_rk_X12_loadOf : cl_X12_loadOf.all (gb_rk gb_flX12 gb_slX12 gb_nlX12 gb_llX12 gb_tlX12 cX12_loadOf) = true := by decide +kernel
theorem gc_ck_X12_loadOf : cl_X12_loadOf.all (gc_ck gb_lkX12 gb_lnX12 [146, 147] 3) = true := by decide +kernel
theorem gm_148 (hl : l.stackTraces = false) : gc_MM l D cA ad A adV 148 := by
  refine ⟨gb_T148, fun h => absurd h (by decide +kernel), fun as σ o hg => ?_⟩
  have hM : ∀ mid ∈ ([146, 147] : List Nat), gc_MM l D cA ad A adV mid := (List.forall_mem_cons.mpr ⟨gm_146 hl, List.forall_mem_cons.mpr ⟨gm_147 hl, fun _ h => nomatch h⟩⟩)
  replace hg : c_X12_loadOf as gaSH σ some = some o := hg
  unfold c_X12_loadOf at hg
  split at hg
  · skip
    rename_i r0 a
    obtain ⟨hb, hg⟩ := gc_bif hg
    obtain rfl := Nat.eq_of_beq_eq_true hb
    obtain ⟨q, hq, hg⟩ := gc_bind hg
    obtain rfl := Option.some.inj hg
    exact gc_metP (maxL := 2) (lf := true) hl gc_pnX12 rfl gb_oX12 gc_rk_X12_loadOf gb_nX12 hM gc_ck_X12_loadOf (t_X12_loadOf a σ _ hq) gd_hoI rfl (fun v hv => by cases hv; exact Or.inl rfl) (Nat.le_of_ble_eq_true rfl) rfl
  · cases hg
theorem gc_rk_X12_supervise : cl_X12_supervise.all (gb_rk gb_flX12 gb_slX12 gb_nlX12 gb_llX12 gb_tlX12 cX12_supervise) = true := by decide +kernel
theorem gc_ck_X12_supervise : cl_X12_supervise.all (gc_ck gb_lkX12 gb_lnX12 [129, 154, 155, 156, 164, 173, 174] 3) = true := by decide +kernel
theorem gm_178 (hl : l.stackTraces = false) : gc_MM l D cA ad A adV 178 := by
  refine ⟨gb_T178, fun h => absurd h (by decide +kernel), fun as σ o hg => ?_⟩
  have hM : ∀ mid ∈ ([129, 154, 155, 156, 164, 173, 174] : List Nat), gc_MM l D cA ad A adV mid := (List.forall_mem_cons.mpr ⟨gm_129 hl, List.forall_mem_cons.mpr ⟨gm_154 hl, List.forall_mem_cons.mpr ⟨gm_155 hl, List.forall_mem_cons.mpr ⟨gm_156 hl, List.forall_mem_cons.mpr ⟨gm_164 hl, List.forall_mem_cons.mpr ⟨gm_173 hl, List.forall_mem_cons.mpr ⟨gm_174 hl, fun _ h => nomatch h⟩⟩⟩⟩⟩⟩⟩)
  replace hg : c_X12_supervise as gaSH σ some = some o := hg
  unfold c_X12_supervise at hg
  split at hg
  · skip
    rename_i r0 a b
    obtain ⟨hb, hg⟩ := gc_bif hg
    obtain rfl := Nat.eq_of_beq_eq_true hb
    obtain ⟨q, hq, hg⟩ := gc_bind hg
    obtain rfl := Option.some.inj hg
    exact gc_metG (maxL := 3) (lf := true) hl gc_pnX12 rfl gb_oX12 gc_rk_X12_supervise gb_nX12 hM gc_ck_X12_supervise (t_X12_supervise a b σ _ hq) gc_hoI rfl (fun v hv => by cases hv; exact Or.inl rfl) (Nat.le_of_ble_eq_true rfl) rfl
  · cases hg
theorem gc_rk_X12_exchange : cl_X12_exchange.all (gb_rk gb_flX12 gb_slX12 gb_nlX12 gb_llX12 gb_tlX12 cX12_exchange) = true := by decide +kernel
theorem gc_ck_X12_exchange : cl_X12_exchange.all (gc_ck gb_lkX12 gb_lnX12 [129, 142, 161, 173, 174] 3) = true := by decide +kernel
theorem gm_182 (hl : l.stackTraces = false) : gc_MM l D cA ad A adV 182 := by
  refine ⟨gb_T182, fun h => absurd h (by decide +kernel), fun as σ o hg => ?_⟩
  have hM : ∀ mid ∈ ([129, 142, 161, 173, 174] : List Nat), gc_MM l D cA ad A adV mid := (List.forall_mem_cons.mpr ⟨gm_129 hl, List.forall_mem_cons.mpr ⟨gm_142 hl, List.forall_mem_cons.mpr ⟨gm_161 hl, List.forall_mem_cons.mpr ⟨gm_173 hl, List.forall_mem_cons.mpr ⟨gm_174 hl, fun _ h => nomatch h⟩⟩⟩⟩⟩)
  replace hg : c_X12_exchange as gaSH σ some = some o := hg
  unfold c_X12_exchange at hg
  split at hg
  · skip
    rename_i r0 a b
    obtain ⟨hb, hg⟩ := gc_bif hg
    obtain rfl := Nat.eq_of_beq_eq_true hb
    obtain ⟨q, hq, hg⟩ := gc_bind hg
    obtain rfl := Option.some.inj hg
    exact gc_metG (maxL := 3) (lf := true) hl gc_pnX12 rfl gb_oX12 gc_rk_X12_exchange gb_nX12 hM gc_ck_X12_exchange (t_X12_exchange a b σ _ hq) gc_hoI rfl (fun v hv => by cases hv; exact Or.inl rfl) (Nat.le_of_ble_eq_true rfl) rfl
  · cases hg
theorem gc_rk_X12_move : cl_X12_move.all (gb_rk gb_flX12 gb_slX12 gb_nlX12 gb_llX12 gb_tlX12 cX12_move) = true := by decide +kernel
theorem gc_ck_X12_move : cl_X12_move.all (gc_ck gb_lkX12 gb_lnX12 [129, 135, 140, 173, 174] 3) = true := by decide +kernel
theorem gm_183 (hl : l.stackTraces = false) : gc_MM l D cA ad A adV 183 := by
  refine ⟨gb_T183, fun h => absurd h (by decide +kernel), fun as σ o hg => ?_⟩
  have hM : ∀ mid ∈ ([129, 135, 140, 173, 174] : List Nat), gc_MM l D cA ad A adV mid := (List.forall_mem_cons.mpr ⟨gm_129 hl, List.forall_mem_cons.mpr ⟨gm_135 hl, List.forall_mem_cons.mpr ⟨gm_140 hl, List.forall_mem_cons.mpr ⟨gm_173 hl, List.forall_mem_cons.mpr ⟨gm_174 hl, fun _ h => nomatch h⟩⟩⟩⟩⟩)
  replace hg : c_X12_move as gaSH σ some = some o := hg
  unfold c_X12_move at hg
  split at hg
  · skip
    rename_i r0 a b
    obtain ⟨hb, hg⟩ := gc_bif hg
    obtain rfl := Nat.eq_of_beq_eq_true hb
    obtain ⟨q, hq, hg⟩ := gc_bind hg
    obtain rfl := Option.some.inj hg
    exact gc_metG (maxL := 4) (lf := true) hl gc_pnX12 rfl gb_oX12 gc_rk_X12_move gb_nX12 hM gc_ck_X12_move (t_X12_move a b σ _ hq) gc_hoI rfl (fun v hv => by cases hv; exact Or.inl rfl) (Nat.le_of_ble_eq_true rfl) rfl
  · cases hg
theorem gc_rk_X3_differingLessons : cl_X3_differingLessons.all (gb_rk gb_flX3 gb_slX3 gb_nlX3 gb_llX3 gb_tlX3 cX3_differingLessons) = true := by decide +kernel
theorem gc_ck_X3_differingLessons : cl_X3_differingLessons.all (gc_ck gb_lkX3 gb_lnX3 [186] 3) = true := by decide +kernel
theorem gm_187 (hl : l.stackTraces = false) : gc_MM l D cA ad A adV 187 := by
  refine ⟨gb_T187, fun h => absurd h (by decide +kernel), fun as σ o hg => ?_⟩
  have hM : ∀ mid ∈ ([186] : List Nat), gc_MM l D cA ad A adV mid := (List.forall_mem_cons.mpr ⟨gm_186 hl, fun _ h => nomatch h⟩)
  replace hg : c_X3_differingLessons as gaSH σ some = some o := hg
  unfold c_X3_differingLessons at hg
  split at hg
  · skip
    rename_i r0
    obtain ⟨hb, hg⟩ := gc_bif hg
    obtain rfl := Nat.eq_of_beq_eq_true hb
    obtain ⟨q, hq, hg⟩ := gc_bind hg
    obtain rfl := Option.some.inj hg
    exact gc_metP (maxL := 3) (lf := true) hl gc_pnX3 rfl gb_oX3 gc_rk_X3_differingLessons gb_nX3 hM gc_ck_X3_differingLessons (t_X3_differingLessons σ _ hq) gd_hoI rfl (fun v hv => by cases hv; exact Or.inl rfl) (Nat.le_of_ble_eq_true rfl) rfl
  · cases hg
theorem gc_rk_X12_whyNotSupervise : cl_X12_whyNotSupervise.all (gb_rk gb_flX12 gb_slX12 gb_nlX12 gb_llX12 gb_tlX12 cX12_whyNotSupervise) = true := by decide +kernel
theorem gc_ck_X12_whyNotSupervise : cl_X12_whyNotSupervise.all (gc_ck gb_lkX12 gb_lnX12 [129, 154, 156, 173] 3) = true := by decide +kernel
theorem gm_193 (hl : l.stackTraces = false) : gc_MM l D cA ad A adV 193 := by
  refine ⟨gb_T193, fun h => absurd h (by decide +kernel), fun as σ o hg => ?_⟩
  have hM : ∀ mid ∈ ([129, 154, 156, 173] : List Nat), gc_MM l D cA ad A adV mid := (List.forall_mem_cons.mpr ⟨gm_129 hl, List.forall_mem_cons.mpr ⟨gm_154 hl, List.forall_mem_cons.mpr ⟨gm_156 hl, List.forall_mem_cons.mpr ⟨gm_173 hl, fun _ h => nomatch h⟩⟩⟩⟩)
  replace hg : c_X12_whyNotSupervise as gaSH σ some = some o := hg
  unfold c_X12_whyNotSupervise at hg
  split at hg
  · skip
    rename_i r0 a b
    obtain ⟨hb, hg⟩ := gc_bif hg
    obtain rfl := Nat.eq_of_beq_eq_true hb
    obtain ⟨q, hq, hg⟩ := gc_bind hg
    obtain rfl := Option.some.inj hg
    exact gc_metG (maxL := 3) (lf := true) hl gc_pnX12 rfl gb_oX12 gc_rk_X12_whyNotSupervise gb_nX12 hM gc_ck_X12_whyNotSupervise (t_X12_whyNotSupervise a b σ _ hq) gc_hoI rfl (fun v hv => by cases hv; exact Or.inl rfl) (Nat.le_of_ble_eq_true rfl) rfl
  · cases hg
theorem gc_rk_X12_whyNotExchange : cl_X12_whyNotExchange.all (gb_rk gb_flX12 gb_slX12 gb_nlX12 gb_llX12 gb_tlX12 cX12_whyNotExchange) = true := by decide +kernel
theorem gc_ck_X12_whyNotExchange : cl_X12_whyNotExchange.all (gc_ck gb_lkX12 gb_lnX12 [129, 142, 173] 3) = true := by decide +kernel
theorem gm_194 (hl : l.stackTraces = false) : gc_MM l D cA ad A adV 194 := by
  refine ⟨gb_T194, fun h => absurd h (by decide +kernel), fun as σ o hg => ?_⟩
  have hM : ∀ mid ∈ ([129, 142, 173] : List Nat), gc_MM l D cA ad A adV mid := (List.forall_mem_cons.mpr ⟨gm_129 hl, List.forall_mem_cons.mpr ⟨gm_142 hl, List.forall_mem_cons.mpr ⟨gm_173 hl, fun _ h => nomatch h⟩⟩⟩)
  replace hg : c_X12_whyNotExchange as gaSH σ some = some o := hg
  unfold c_X12_whyNotExchange at hg
  split at hg
  · skip
    rename_i r0 a b
    obtain ⟨hb, hg⟩ := gc_bif hg
    obtain rfl := Nat.eq_of_beq_eq_true hb
    obtain ⟨q, hq, hg⟩ := gc_bind hg
    obtain rfl := Option.some.inj hg
    exact gc_metG (maxL := 3) (lf := true) hl gc_pnX12 rfl gb_oX12 gc_rk_X12_whyNotExchange gb_nX12 hM gc_ck_X12_whyNotExchange (t_X12_whyNotExchange a b σ _ hq) gc_hoI rfl (fun v hv => by cases hv; exact Or.inl rfl) (Nat.le_of_ble_eq_true rfl) rfl
  · cases hg
theorem gc_rk_X12_whyNotMove : cl_X12_whyNotMove.all (gb_rk gb_flX12 gb_slX12 gb_nlX12 gb_llX12 gb_tlX12 cX12_whyNotMove) = true := by decide +kernel
theorem gc_ck_X12_whyNotMove : cl_X12_whyNotMove.all (gc_ck gb_lkX12 gb_lnX12 [129, 135, 140, 173] 3) = true := by decide +kernel
theorem gm_195 (hl : l.stackTraces = false) : gc_MM l D cA ad A adV 195 := by
  refine ⟨gb_T195, fun h => absurd h (by decide +kernel), fun as σ o hg => ?_⟩
  have hM : ∀ mid ∈ ([129, 135, 140, 173] : List Nat), gc_MM l D cA ad A adV mid := (List.forall_mem_cons.mpr ⟨gm_129 hl, List.forall_mem_cons.mpr ⟨gm_135 hl, List.forall_mem_cons.mpr ⟨gm_140 hl, List.forall_mem_cons.mpr ⟨gm_173 hl, fun _ h => nomatch h⟩⟩⟩⟩)
  replace hg : c_X12_whyNotMove as gaSH σ some = some o := hg
  unfold c_X12_whyNotMove at hg
  split at hg
  · skip
    rename_i r0 a b
    obtain ⟨hb, hg⟩ := gc_bif hg
    obtain rfl := Nat.eq_of_beq_eq_true hb
    obtain ⟨q, hq, hg⟩ := gc_bind hg
    obtain rfl := Option.some.inj hg
    exact gc_metG (maxL := 3) (lf := true) hl gc_pnX12 rfl gb_oX12 gc_rk_X12_whyNotMove gb_nX12 hM gc_ck_X12_whyNotMove (t_X12_whyNotMove a b σ _ hq) gc_hoI rfl (fun v hv => by cases hv; exact Or.inl rfl) (Nat.le_of_ble_eq_true rfl) rfl
  · cases hg
theorem gc_rk_X12_partnerOf : cl_X12_partnerOf.all (gb_rk gb_flX12 gb_slX12 gb_nlX12 gb_llX12 gb_tlX12 cX12_partnerOf) = true := by decide +kernel
theorem gc_ck_X12_partnerOf : cl_X12_partnerOf.all (gc_ck gb_lkX12 gb_lnX12 [142] 3) = true := by decide +kernel
theorem gm_200 (hl : l.stackTraces = false) : gc_MM l D cA ad A adV 200 := by
  refine ⟨gb_T200, fun h => absurd h (by decide +kernel), fun as σ o hg => ?_⟩
  have hM : ∀ mid ∈ ([142] : List Nat), gc_MM l D cA ad A adV mid := (List.forall_mem_cons.mpr ⟨gm_142 hl, fun _ h => nomatch h⟩)
  replace hg : c_X12_partnerOf as gaSH σ some = some o := hg
  unfold c_X12_partnerOf at hg
  split at hg
  · skip
    rename_i r0 a b
    obtain ⟨hb, hg⟩ := gc_bif hg
    obtain rfl := Nat.eq_of_beq_eq_true hb
    obtain ⟨q, hq, hg⟩ := gc_bind hg
    obtain rfl := Option.some.inj hg
    exact gc_metP (maxL := 5) (lf := true) hl gc_pnX12 rfl gb_oX12 gc_rk_X12_partnerOf gb_nX12 hM gc_ck_X12_partnerOf (t_X12_partnerOf a b σ _ hq) gd_hoI rfl (fun v hv => by cases hv; exact Or.inl rfl) (Nat.le_of_ble_eq_true rfl) rfl
  · cases hg
theorem gc_rk_X12_slotsFor : cl_X12_slotsFor.all (gb_rk gb_flX12 gb_slX12 gb_nlX12 gb_llX12 gb_tlX12 cX12_slotsFor) = true := by decide +kernel
theorem gc_ck_X12_slotsFor : cl_X12_slotsFor.all (gc_ck gb_lkX12 gb_lnX12 [129, 134, 140, 173] 3) = true := by decide +kernel
theorem gm_203 (hl : l.stackTraces = false) : gc_MM l D cA ad A adV 203 := by
  refine ⟨gb_T203, fun h => absurd h (by decide +kernel), fun as σ o hg => ?_⟩
  have hM : ∀ mid ∈ ([129, 134, 140, 173] : List Nat), gc_MM l D cA ad A adV mid := (List.forall_mem_cons.mpr ⟨gm_129 hl, List.forall_mem_cons.mpr ⟨gm_134 hl, List.forall_mem_cons.mpr ⟨gm_140 hl, List.forall_mem_cons.mpr ⟨gm_173 hl, fun _ h => nomatch h⟩⟩⟩⟩)
  replace hg : c_X12_slotsFor as gaSH σ some = some o := hg
  unfold c_X12_slotsFor at hg
  split at hg
  · skip
    rename_i r0 a
    obtain ⟨hb, hg⟩ := gc_bif hg
    obtain rfl := Nat.eq_of_beq_eq_true hb
    obtain ⟨q, hq, hg⟩ := gc_bind hg
    obtain rfl := Option.some.inj hg
    exact gc_metG (maxL := 4) (lf := true) hl gc_pnX12 rfl gb_oX12 gc_rk_X12_slotsFor gb_nX12 hM gc_ck_X12_slotsFor (t_X12_slotsFor a σ _ hq) gc_hoI rfl (fun v hv => by cases hv; exact Or.inl rfl) (Nat.le_of_ble_eq_true rfl) rfl
  · cases hg
theorem gc_rk_X3_taughtLessons : cl_X3_taughtLessons.all (gb_rk gb_flX3 gb_slX3 gb_nlX3 gb_llX3 gb_tlX3 cX3_taughtLessons) = true := by decide +kernel
theorem gc_ck_X3_taughtLessons : cl_X3_taughtLessons.all (gc_ck gb_lkX3 gb_lnX3 [205, 206] 3) = true := by decide +kernel
theorem gm_231 (hl : l.stackTraces = false) : gc_MM l D cA ad A adV 231 := by
  refine ⟨gb_T231, fun h => absurd h (by decide +kernel), fun as σ o hg => ?_⟩
  have hM : ∀ mid ∈ ([205, 206] : List Nat), gc_MM l D cA ad A adV mid := (List.forall_mem_cons.mpr ⟨gm_205 hl, List.forall_mem_cons.mpr ⟨gm_206 hl, fun _ h => nomatch h⟩⟩)
  replace hg : c_X3_taughtLessons as gaSH σ some = some o := hg
  unfold c_X3_taughtLessons at hg
  split at hg
  · skip
    rename_i r0
    obtain ⟨hb, hg⟩ := gc_bif hg
    obtain rfl := Nat.eq_of_beq_eq_true hb
    obtain ⟨q, hq, hg⟩ := gc_bind hg
    obtain rfl := Option.some.inj hg
    exact gc_metP (maxL := 1) (lf := true) hl gc_pnX3 rfl gb_oX3 gc_rk_X3_taughtLessons gb_nX3 hM gc_ck_X3_taughtLessons (t_X3_taughtLessons σ _ hq) gd_hoI rfl (fun v hv => by cases hv; exact Or.inl rfl) (Nat.le_of_ble_eq_true rfl) rfl
  · cases hg
theorem gc_rk_X5_write : cl_X5_write.all (gb_rk gb_flX5 gb_slX5 gb_nlX5 gb_llX5 gb_tlX5 cX5_write) = true := by decide +kernel
theorem gc_ck_X5_write : cl_X5_write.all (gc_ck gb_lkX5 gb_lnX5 [101, 234, 235] 3) = true := by decide +kernel
theorem gm_236 (hl : l.stackTraces = false) : gc_MM l D cA ad A adV 236 := by
  refine ⟨gb_T236, fun h => absurd h (by decide +kernel), fun as σ o hg => ?_⟩
  have hM : ∀ mid ∈ ([101, 234, 235] : List Nat), gc_MM l D cA ad A adV mid := (List.forall_mem_cons.mpr ⟨gm_101 hl, List.forall_mem_cons.mpr ⟨gm_234 hl, List.forall_mem_cons.mpr ⟨gm_235 hl, fun _ h => nomatch h⟩⟩⟩)
  replace hg : c_X5_write as gaSH σ some = some o := hg
  unfold c_X5_write at hg
  split at hg
  · skip
    rename_i r0 a
    obtain ⟨hb, hg⟩ := gc_bif hg
    obtain rfl := Nat.eq_of_beq_eq_true hb
    obtain ⟨q, hq, hg⟩ := gc_bind hg
    obtain rfl := Option.some.inj hg
    exact gc_metG (maxL := 4) (lf := true) hl gc_pnX5 rfl gb_oX5 gc_rk_X5_write gb_nX5 hM gc_ck_X5_write (t_X5_write a σ _ hq) gc_hoV rfl (fun v hv => by cases hv; rfl) (Nat.le_of_ble_eq_true rfl) rfl
  · cases hg
theorem gc_rk_X11_setAbsent : cl_X11_setAbsent.all (gb_rk gb_flX11 gb_slX11 gb_nlX11 gb_llX11 gb_tlX11 cX11_setAbsent) = true := by decide +kernel
theorem gc_ck_X11_setAbsent : cl_X11_setAbsent.all (gc_ck gb_lkX11 gb_lnX11 [77, 78, 86, 402, 403] 3) = true := by decide +kernel
theorem gm_404 (hl : l.stackTraces = false) : gc_MM l D cA ad A adV 404 := by
  refine ⟨gb_T404, fun h => absurd h (by decide +kernel), fun as σ o hg => ?_⟩
  have hM : ∀ mid ∈ ([77, 78, 86, 402, 403] : List Nat), gc_MM l D cA ad A adV mid := (List.forall_mem_cons.mpr ⟨gm_77 hl, List.forall_mem_cons.mpr ⟨gm_78 hl, List.forall_mem_cons.mpr ⟨gm_86 hl, List.forall_mem_cons.mpr ⟨gm_402 hl, List.forall_mem_cons.mpr ⟨gm_403 hl, fun _ h => nomatch h⟩⟩⟩⟩⟩)
  replace hg : c_X11_setAbsent as gaSH σ some = some o := hg
  unfold c_X11_setAbsent at hg
  split at hg
  · skip
    rename_i r0 a b c
    obtain ⟨hb, hg⟩ := gc_bif hg
    obtain rfl := Nat.eq_of_beq_eq_true hb
    obtain ⟨q, hq, hg⟩ := gc_bind hg
    obtain ⟨q, s1⟩ := q
    cases q with
    | inl x =>
      obtain rfl := Option.some.inj hg
      exact gc_metG (maxL := 5) (lf := true) hl gc_pnX11 rfl gb_oX11 gc_rk_X11_setAbsent gb_nX11 hM gc_ck_X11_setAbsent (t_X11_setAbsent a b c σ _ hq) gc_hoIXl rfl (fun v hv => by cases hv; exact Or.inl rfl) (Nat.le_of_ble_eq_true rfl) rfl
    | inr E =>
      obtain rfl := Option.some.inj hg
      exact gc_metG (maxL := 5) (lf := true) hl gc_pnX11 rfl gb_oX11 gc_rk_X11_setAbsent gb_nX11 hM gc_ck_X11_setAbsent (t_X11_setAbsent a b c σ _ hq) gc_hoIXr rfl (fun v hv => by cases hv) (Nat.le_of_ble_eq_true rfl) rfl
  · cases hg
theorem gc_rk_X11_reopen : cl_X11_reopen.all (gb_rk gb_flX11 gb_slX11 gb_nlX11 gb_llX11 gb_tlX11 cX11_reopen) = true := by decide +kernel
theorem gc_ck_X11_reopen : cl_X11_reopen.all (gc_ck gb_lkX11 gb_lnX11 [1, 77, 89, 405, 406] 3) = true := by decide +kernel
theorem gm_415 (hl : l.stackTraces = false) : gc_MM l D cA ad A adV 415 := by
  refine ⟨gb_T415, fun h => absurd h (by decide +kernel), fun as σ o hg => ?_⟩
  have hM : ∀ mid ∈ ([1, 77, 89, 405, 406] : List Nat), gc_MM l D cA ad A adV mid := (List.forall_mem_cons.mpr ⟨gm_1 hl, List.forall_mem_cons.mpr ⟨gm_77 hl, List.forall_mem_cons.mpr ⟨gm_89 hl, List.forall_mem_cons.mpr ⟨gm_405 hl, List.forall_mem_cons.mpr ⟨gm_406 hl, fun _ h => nomatch h⟩⟩⟩⟩⟩)
  replace hg : c_X11_reopen as gaSH σ some = some o := hg
  unfold c_X11_reopen at hg
  split at hg
  · skip
    rename_i r0 a
    obtain ⟨hb, hg⟩ := gc_bif hg
    obtain rfl := Nat.eq_of_beq_eq_true hb
    obtain ⟨q, hq, hg⟩ := gc_bind hg
    obtain ⟨q, s1⟩ := q
    cases q with
    | inl x =>
      obtain rfl := Option.some.inj hg
      exact gc_metG (maxL := 3) (lf := true) hl gc_pnX11 rfl gb_oX11 gc_rk_X11_reopen gb_nX11 hM gc_ck_X11_reopen (t_X11_reopen a σ _ hq) gc_hoIXl rfl (fun v hv => by cases hv; exact Or.inl rfl) (Nat.le_of_ble_eq_true rfl) rfl
    | inr E =>
      obtain rfl := Option.some.inj hg
      exact gc_metG (maxL := 3) (lf := true) hl gc_pnX11 rfl gb_oX11 gc_rk_X11_reopen gb_nX11 hM gc_ck_X11_reopen (t_X11_reopen a σ _ hq) gc_hoIXr rfl (fun v hv => by cases hv) (Nat.le_of_ble_eq_true rfl) rfl
  · cases hg
theorem gc_rk_X11_whyNotRoom : cl_X11_whyNotRoom.all (gb_rk gb_flX11 gb_slX11 gb_nlX11 gb_llX11 gb_tlX11 cX11_whyNotRoom) = true := by decide +kernel
theorem gc_ck_X11_whyNotRoom : cl_X11_whyNotRoom.all (gc_ck gb_lkX11 gb_lnX11 [105, 405, 413] 3) = true := by decide +kernel
theorem gm_420 (hl : l.stackTraces = false) : gc_MM l D cA ad A adV 420 := by
  refine ⟨gb_T420, fun h => absurd h (by decide +kernel), fun as σ o hg => ?_⟩
  have hM : ∀ mid ∈ ([105, 405, 413] : List Nat), gc_MM l D cA ad A adV mid := (List.forall_mem_cons.mpr ⟨gm_105 hl, List.forall_mem_cons.mpr ⟨gm_405 hl, List.forall_mem_cons.mpr ⟨gm_413 hl, fun _ h => nomatch h⟩⟩⟩)
  replace hg : c_X11_whyNotRoom as gaSH σ some = some o := hg
  unfold c_X11_whyNotRoom at hg
  split at hg
  · skip
    rename_i r0 a b
    obtain ⟨hb, hg⟩ := gc_bif hg
    obtain rfl := Nat.eq_of_beq_eq_true hb
    obtain ⟨q, hq, hg⟩ := gc_bind hg
    cases q with
    | inl x =>
      obtain rfl := Option.some.inj hg
      exact gc_metP (maxL := 3) (lf := true) hl gc_pnX11 rfl gb_oX11 gc_rk_X11_whyNotRoom gb_nX11 hM gc_ck_X11_whyNotRoom (t_X11_whyNotRoom a b σ _ hq) gd_hoIXl rfl (fun v hv => by cases hv; exact Or.inl rfl) (Nat.le_of_ble_eq_true rfl) rfl
    | inr E =>
      obtain rfl := Option.some.inj hg
      exact gc_metP (maxL := 3) (lf := true) hl gc_pnX11 rfl gb_oX11 gc_rk_X11_whyNotRoom gb_nX11 hM gc_ck_X11_whyNotRoom (t_X11_whyNotRoom a b σ _ hq) gd_hoIXr rfl (fun v hv => by cases hv) (Nat.le_of_ble_eq_true rfl) rfl
  · cases hg
theorem gc_rk_X11_lesson : cl_X11_lesson.all (gb_rk gb_flX11 gb_slX11 gb_nlX11 gb_llX11 gb_tlX11 cX11_lesson) = true := by decide +kernel
theorem gc_ck_X11_lesson : cl_X11_lesson.all (gc_ck gb_lkX11 gb_lnX11 [1, 115, 186, 405] 3) = true := by decide +kernel
theorem gm_428 (hl : l.stackTraces = false) : gc_MM l D cA ad A adV 428 := by
  refine ⟨gb_T428, fun h => absurd h (by decide +kernel), fun as σ o hg => ?_⟩
  have hM : ∀ mid ∈ ([1, 115, 186, 405] : List Nat), gc_MM l D cA ad A adV mid := (List.forall_mem_cons.mpr ⟨gm_1 hl, List.forall_mem_cons.mpr ⟨gm_115 hl, List.forall_mem_cons.mpr ⟨gm_186 hl, List.forall_mem_cons.mpr ⟨gm_405 hl, fun _ h => nomatch h⟩⟩⟩⟩)
  replace hg : c_X11_lesson as gaSH σ some = some o := hg
  unfold c_X11_lesson at hg
  split at hg
  · skip
    rename_i r0 a b
    obtain ⟨hb, hg⟩ := gc_bif hg
    obtain rfl := Nat.eq_of_beq_eq_true hb
    obtain ⟨q, hq, hg⟩ := gc_bind hg
    cases q with
    | inl x =>
      obtain rfl := Option.some.inj hg
      exact gc_metP (maxL := 3) (lf := true) hl gc_pnX11 rfl gb_oX11 gc_rk_X11_lesson gb_nX11 hM gc_ck_X11_lesson (t_X11_lesson a b σ _ hq) gd_hoIXl rfl (fun v hv => by cases hv; exact Or.inl rfl) (Nat.le_of_ble_eq_true rfl) rfl
    | inr E =>
      obtain rfl := Option.some.inj hg
      exact gc_metP (maxL := 3) (lf := true) hl gc_pnX11 rfl gb_oX11 gc_rk_X11_lesson gb_nX11 hM gc_ck_X11_lesson (t_X11_lesson a b σ _ hq) gd_hoIXr rfl (fun v hv => by cases hv) (Nat.le_of_ble_eq_true rfl) rfl
  · cases hg
theorem gc_rk_X11_teacher : cl_X11_teacher.all (gb_rk gb_flX11 gb_slX11 gb_nlX11 gb_llX11 gb_tlX11 cX11_teacher) = true := by decide +kernel
theorem gc_ck_X11_teacher : cl_X11_teacher.all (gc_ck gb_lkX11 gb_lnX11 [1, 94, 177, 204, 211, 402] 3) = true := by decide +kernel
theorem gm_429 (hl : l.stackTraces = false) : gc_MM l D cA ad A adV 429 := by
  refine ⟨gb_T429, fun h => absurd h (by decide +kernel), fun as σ o hg => ?_⟩
  have hM : ∀ mid ∈ ([1, 94, 177, 204, 211, 402] : List Nat), gc_MM l D cA ad A adV mid := (List.forall_mem_cons.mpr ⟨gm_1 hl, List.forall_mem_cons.mpr ⟨gm_94 hl, List.forall_mem_cons.mpr ⟨gm_177 hl, List.forall_mem_cons.mpr ⟨gm_204 hl, List.forall_mem_cons.mpr ⟨gm_211 hl, List.forall_mem_cons.mpr ⟨gm_402 hl, fun _ h => nomatch h⟩⟩⟩⟩⟩⟩)
  replace hg : c_X11_teacher as gaSH σ some = some o := hg
  unfold c_X11_teacher at hg
  split at hg
  · skip
    rename_i r0 a b
    obtain ⟨hb, hg⟩ := gc_bif hg
    obtain rfl := Nat.eq_of_beq_eq_true hb
    obtain ⟨q, hq, hg⟩ := gc_bind hg
    cases q with
    | inl x =>
      obtain rfl := Option.some.inj hg
      exact gc_metP (maxL := 3) (lf := true) hl gc_pnX11 rfl gb_oX11 gc_rk_X11_teacher gb_nX11 hM gc_ck_X11_teacher (t_X11_teacher a b σ _ hq) gd_hoIXl rfl (fun v hv => by cases hv; exact Or.inl rfl) (Nat.le_of_ble_eq_true rfl) rfl
    | inr E =>
      obtain rfl := Option.some.inj hg
      exact gc_metP (maxL := 3) (lf := true) hl gc_pnX11 rfl gb_oX11 gc_rk_X11_teacher gb_nX11 hM gc_ck_X11_teacher (t_X11_teacher a b σ _ hq) gd_hoIXr rfl (fun v hv => by cases hv) (Nat.le_of_ble_eq_true rfl) rfl
  · cases hg
theorem gc_rk_X11_lessonOfClass : cl_X11_lessonOfClass.all (gb_rk gb_flX11 gb_slX11 gb_nlX11 gb_llX11 gb_tlX11 cX11_lessonOfClass) = true := by decide +kernel
theorem gc_ck_X11_lessonOfClass : cl_X11_lessonOfClass.all (gc_ck gb_lkX11 gb_lnX11 [101, 411, 432] 3) = true := by decide +kernel
theorem gm_433 (hl : l.stackTraces = false) : gc_MM l D cA ad A adV 433 := by
  refine ⟨gb_T433, fun h => absurd h (by decide +kernel), fun as σ o hg => ?_⟩
  have hM : ∀ mid ∈ ([101, 411, 432] : List Nat), gc_MM l D cA ad A adV mid := (List.forall_mem_cons.mpr ⟨gm_101 hl, List.forall_mem_cons.mpr ⟨gm_411 hl, List.forall_mem_cons.mpr ⟨gm_432 hl, fun _ h => nomatch h⟩⟩⟩)
  replace hg : c_X11_lessonOfClass as gaSH σ some = some o := hg
  unfold c_X11_lessonOfClass at hg
  split at hg
  · skip
    rename_i r0 a b
    obtain ⟨hb, hg⟩ := gc_bif hg
    obtain rfl := Nat.eq_of_beq_eq_true hb
    obtain ⟨q, hq, hg⟩ := gc_bind hg
    cases q with
    | inl x =>
      obtain rfl := Option.some.inj hg
      exact gc_metP (maxL := 3) (lf := true) hl gc_pnX11 rfl gb_oX11 gc_rk_X11_lessonOfClass gb_nX11 hM gc_ck_X11_lessonOfClass (t_X11_lessonOfClass a b σ _ hq) gd_hoIXl rfl (fun v hv => by cases hv; exact Or.inl rfl) (Nat.le_of_ble_eq_true rfl) rfl
    | inr E =>
      obtain rfl := Option.some.inj hg
      exact gc_metP (maxL := 3) (lf := true) hl gc_pnX11 rfl gb_oX11 gc_rk_X11_lessonOfClass gb_nX11 hM gc_ck_X11_lessonOfClass (t_X11_lessonOfClass a b σ _ hq) gd_hoIXr rfl (fun v hv => by cases hv) (Nat.le_of_ble_eq_true rfl) rfl
  · cases hg
theorem gc_rk_X11_lessonOfTeacher : cl_X11_lessonOfTeacher.all (gb_rk gb_flX11 gb_slX11 gb_nlX11 gb_llX11 gb_tlX11 cX11_lessonOfTeacher) = true := by decide +kernel
theorem gc_ck_X11_lessonOfTeacher : cl_X11_lessonOfTeacher.all (gc_ck gb_lkX11 gb_lnX11 [101, 402, 411] 3) = true := by decide +kernel
theorem gm_434 (hl : l.stackTraces = false) : gc_MM l D cA ad A adV 434 := by
  refine ⟨gb_T434, fun h => absurd h (by decide +kernel), fun as σ o hg => ?_⟩
  have hM : ∀ mid ∈ ([101, 402, 411] : List Nat), gc_MM l D cA ad A adV mid := (List.forall_mem_cons.mpr ⟨gm_101 hl, List.forall_mem_cons.mpr ⟨gm_402 hl, List.forall_mem_cons.mpr ⟨gm_411 hl, fun _ h => nomatch h⟩⟩⟩)
  replace hg : c_X11_lessonOfTeacher as gaSH σ some = some o := hg
  unfold c_X11_lessonOfTeacher at hg
  split at hg
  · skip
    rename_i r0 a b
    obtain ⟨hb, hg⟩ := gc_bif hg
    obtain rfl := Nat.eq_of_beq_eq_true hb
    obtain ⟨q, hq, hg⟩ := gc_bind hg
    cases q with
    | inl x =>
      obtain rfl := Option.some.inj hg
      exact gc_metP (maxL := 3) (lf := true) hl gc_pnX11 rfl gb_oX11 gc_rk_X11_lessonOfTeacher gb_nX11 hM gc_ck_X11_lessonOfTeacher (t_X11_lessonOfTeacher a b σ _ hq) gd_hoIXl rfl (fun v hv => by cases hv; exact Or.inl rfl) (Nat.le_of_ble_eq_true rfl) rfl
    | inr E =>
      obtain rfl := Option.some.inj hg
      exact gc_metP (maxL := 3) (lf := true) hl gc_pnX11 rfl gb_oX11 gc_rk_X11_lessonOfTeacher gb_nX11 hM gc_ck_X11_lessonOfTeacher (t_X11_lessonOfTeacher a b σ _ hq) gd_hoIXr rfl (fun v hv => by cases hv) (Nat.le_of_ble_eq_true rfl) rfl
  · cases hg
theorem gc_rk_X11_lessonInRoom : cl_X11_lessonInRoom.all (gb_rk gb_flX11 gb_slX11 gb_nlX11 gb_llX11 gb_tlX11 cX11_lessonInRoom) = true := by decide +kernel
theorem gc_ck_X11_lessonInRoom : cl_X11_lessonInRoom.all (gc_ck gb_lkX11 gb_lnX11 [101, 411, 413] 3) = true := by decide +kernel
theorem gm_435 (hl : l.stackTraces = false) : gc_MM l D cA ad A adV 435 := by
  refine ⟨gb_T435, fun h => absurd h (by decide +kernel), fun as σ o hg => ?_⟩
  have hM : ∀ mid ∈ ([101, 411, 413] : List Nat), gc_MM l D cA ad A adV mid := (List.forall_mem_cons.mpr ⟨gm_101 hl, List.forall_mem_cons.mpr ⟨gm_411 hl, List.forall_mem_cons.mpr ⟨gm_413 hl, fun _ h => nomatch h⟩⟩⟩)
  replace hg : c_X11_lessonInRoom as gaSH σ some = some o := hg
  unfold c_X11_lessonInRoom at hg
  split at hg
  · skip
    rename_i r0 a b
    obtain ⟨hb, hg⟩ := gc_bif hg
    obtain rfl := Nat.eq_of_beq_eq_true hb
    obtain ⟨q, hq, hg⟩ := gc_bind hg
    cases q with
    | inl x =>
      obtain rfl := Option.some.inj hg
      exact gc_metP (maxL := 3) (lf := true) hl gc_pnX11 rfl gb_oX11 gc_rk_X11_lessonInRoom gb_nX11 hM gc_ck_X11_lessonInRoom (t_X11_lessonInRoom a b σ _ hq) gd_hoIXl rfl (fun v hv => by cases hv; exact Or.inl rfl) (Nat.le_of_ble_eq_true rfl) rfl
    | inr E =>
      obtain rfl := Option.some.inj hg
      exact gc_metP (maxL := 3) (lf := true) hl gc_pnX11 rfl gb_oX11 gc_rk_X11_lessonInRoom gb_nX11 hM gc_ck_X11_lessonInRoom (t_X11_lessonInRoom a b σ _ hq) gd_hoIXr rfl (fun v hv => by cases hv) (Nat.le_of_ble_eq_true rfl) rfl
  · cases hg
theorem gc_rk_X11_freeTeachers : cl_X11_freeTeachers.all (gb_rk gb_flX11 gb_slX11 gb_nlX11 gb_llX11 gb_tlX11 cX11_freeTeachers) = true := by decide +kernel
theorem gc_ck_X11_freeTeachers : cl_X11_freeTeachers.all (gc_ck gb_lkX11 gb_lnX11 [50, 101, 411] 3) = true := by decide +kernel
theorem gm_436 (hl : l.stackTraces = false) : gc_MM l D cA ad A adV 436 := by
  refine ⟨gb_T436, fun h => absurd h (by decide +kernel), fun as σ o hg => ?_⟩
  have hM : ∀ mid ∈ ([50, 101, 411] : List Nat), gc_MM l D cA ad A adV mid := (List.forall_mem_cons.mpr ⟨gm_50 hl, List.forall_mem_cons.mpr ⟨gm_101 hl, List.forall_mem_cons.mpr ⟨gm_411 hl, fun _ h => nomatch h⟩⟩⟩)
  replace hg : c_X11_freeTeachers as gaSH σ some = some o := hg
  unfold c_X11_freeTeachers at hg
  split at hg
  · skip
    rename_i r0 a
    obtain ⟨hb, hg⟩ := gc_bif hg
    obtain rfl := Nat.eq_of_beq_eq_true hb
    obtain ⟨q, hq, hg⟩ := gc_bind hg
    cases q with
    | inl x =>
      obtain rfl := Option.some.inj hg
      exact gc_metP (maxL := 4) (lf := true) hl gc_pnX11 rfl gb_oX11 gc_rk_X11_freeTeachers gb_nX11 hM gc_ck_X11_freeTeachers (t_X11_freeTeachers a σ _ hq) gd_hoIXl rfl (fun v hv => by cases hv; exact Or.inl rfl) (Nat.le_of_ble_eq_true rfl) rfl
    | inr E =>
      obtain rfl := Option.some.inj hg
      exact gc_metP (maxL := 4) (lf := true) hl gc_pnX11 rfl gb_oX11 gc_rk_X11_freeTeachers gb_nX11 hM gc_ck_X11_freeTeachers (t_X11_freeTeachers a σ _ hq) gd_hoIXr rfl (fun v hv => by cases hv) (Nat.le_of_ble_eq_true rfl) rfl
  · cases hg
theorem gc_rk_X11_freeRooms : cl_X11_freeRooms.all (gb_rk gb_flX11 gb_slX11 gb_nlX11 gb_llX11 gb_tlX11 cX11_freeRooms) = true := by decide +kernel
theorem gc_ck_X11_freeRooms : cl_X11_freeRooms.all (gc_ck gb_lkX11 gb_lnX11 [1, 101, 411] 3) = true := by decide +kernel
theorem gm_437 (hl : l.stackTraces = false) : gc_MM l D cA ad A adV 437 := by
  refine ⟨gb_T437, fun h => absurd h (by decide +kernel), fun as σ o hg => ?_⟩
  have hM : ∀ mid ∈ ([1, 101, 411] : List Nat), gc_MM l D cA ad A adV mid := (List.forall_mem_cons.mpr ⟨gm_1 hl, List.forall_mem_cons.mpr ⟨gm_101 hl, List.forall_mem_cons.mpr ⟨gm_411 hl, fun _ h => nomatch h⟩⟩⟩)
  replace hg : c_X11_freeRooms as gaSH σ some = some o := hg
  unfold c_X11_freeRooms at hg
  split at hg
  · skip
    rename_i r0 a b
    obtain ⟨hb, hg⟩ := gc_bif hg
    obtain rfl := Nat.eq_of_beq_eq_true hb
    obtain ⟨q, hq, hg⟩ := gc_bind hg
    cases q with
    | inl x =>
      obtain rfl := Option.some.inj hg
      exact gc_metP (maxL := 5) (lf := true) hl gc_pnX11 rfl gb_oX11 gc_rk_X11_freeRooms gb_nX11 hM gc_ck_X11_freeRooms (t_X11_freeRooms a b σ _ hq) gd_hoIXl rfl (fun v hv => by cases hv; exact Or.inl rfl) (Nat.le_of_ble_eq_true rfl) rfl
    | inr E =>
      obtain rfl := Option.some.inj hg
      exact gc_metP (maxL := 5) (lf := true) hl gc_pnX11 rfl gb_oX11 gc_rk_X11_freeRooms gb_nX11 hM gc_ck_X11_freeRooms (t_X11_freeRooms a b σ _ hq) gd_hoIXr rfl (fun v hv => by cases hv) (Nat.le_of_ble_eq_true rfl) rfl
  · cases hg
theorem gc_rk_X11_difference : cl_X11_difference.all (gb_rk gb_flX11 gb_slX11 gb_nlX11 gb_llX11 gb_tlX11 cX11_difference) = true := by decide +kernel
theorem gc_ck_X11_difference : cl_X11_difference.all (gc_ck gb_lkX11 gb_lnX11 [186] 3) = true := by decide +kernel
theorem gm_439 (hl : l.stackTraces = false) : gc_MM l D cA ad A adV 439 := by
  refine ⟨gb_T439, fun h => absurd h (by decide +kernel), fun as σ o hg => ?_⟩
  have hM : ∀ mid ∈ ([186] : List Nat), gc_MM l D cA ad A adV mid := (List.forall_mem_cons.mpr ⟨gm_186 hl, fun _ h => nomatch h⟩)
  replace hg : c_X11_difference as gaSH σ some = some o := hg
  unfold c_X11_difference at hg
  split at hg
  · skip
    rename_i r0 a
    obtain ⟨hb, hg⟩ := gc_bif hg
    obtain rfl := Nat.eq_of_beq_eq_true hb
    obtain ⟨q, hq, hg⟩ := gc_bind hg
    cases q with
    | inl x =>
      obtain rfl := Option.some.inj hg
      exact gc_metP (maxL := 4) (lf := true) hl gc_pnX11 rfl gb_oX11 gc_rk_X11_difference gb_nX11 hM gc_ck_X11_difference (t_X11_difference a σ _ hq) gd_hoIXl rfl (fun v hv => by cases hv; exact Or.inl rfl) (Nat.le_of_ble_eq_true rfl) rfl
    | inr E =>
      obtain rfl := Option.some.inj hg
      exact gc_metP (maxL := 4) (lf := true) hl gc_pnX11 rfl gb_oX11 gc_rk_X11_difference gb_nX11 hM gc_ck_X11_difference (t_X11_difference a σ _ hq) gd_hoIXr rfl (fun v hv => by cases hv) (Nat.le_of_ble_eq_true rfl) rfl
  · cases hg
theorem gc_rk_X11_windows : cl_X11_windows.all (gb_rk gb_flX11 gb_slX11 gb_nlX11 gb_llX11 gb_tlX11 cX11_windows) = true := by decide +kernel
theorem gc_ck_X11_windows : cl_X11_windows.all (gc_ck gb_lkX11 gb_lnX11 [224, 402, 403] 3) = true := by decide +kernel
theorem gm_440 (hl : l.stackTraces = false) : gc_MM l D cA ad A adV 440 := by
  refine ⟨gb_T440, fun h => absurd h (by decide +kernel), fun as σ o hg => ?_⟩
  have hM : ∀ mid ∈ ([224, 402, 403] : List Nat), gc_MM l D cA ad A adV mid := (List.forall_mem_cons.mpr ⟨gm_224 hl, List.forall_mem_cons.mpr ⟨gm_402 hl, List.forall_mem_cons.mpr ⟨gm_403 hl, fun _ h => nomatch h⟩⟩⟩)
  replace hg : c_X11_windows as gaSH σ some = some o := hg
  unfold c_X11_windows at hg
  split at hg
  · skip
    rename_i r0 a b
    obtain ⟨hb, hg⟩ := gc_bif hg
    obtain rfl := Nat.eq_of_beq_eq_true hb
    obtain ⟨q, hq, hg⟩ := gc_bind hg
    cases q with
    | inl x =>
      obtain rfl := Option.some.inj hg
      exact gc_metP (maxL := 3) (lf := true) hl gc_pnX11 rfl gb_oX11 gc_rk_X11_windows gb_nX11 hM gc_ck_X11_windows (t_X11_windows a b σ _ hq) gd_hoIXl rfl (fun v hv => by cases hv; exact Or.inl rfl) (Nat.le_of_ble_eq_true rfl) rfl
    | inr E =>
      obtain rfl := Option.some.inj hg
      exact gc_metP (maxL := 3) (lf := true) hl gc_pnX11 rfl gb_oX11 gc_rk_X11_windows gb_nX11 hM gc_ck_X11_windows (t_X11_windows a b σ _ hq) gd_hoIXr rfl (fun v hv => by cases hv) (Nat.le_of_ble_eq_true rfl) rfl
  · cases hg
theorem gc_rk_X11_classWindows : cl_X11_classWindows.all (gb_rk gb_flX11 gb_slX11 gb_nlX11 gb_llX11 gb_tlX11 cX11_classWindows) = true := by decide +kernel
theorem gc_ck_X11_classWindows : cl_X11_classWindows.all (gc_ck gb_lkX11 gb_lnX11 [224, 403, 432] 3) = true := by decide +kernel
theorem gm_441 (hl : l.stackTraces = false) : gc_MM l D cA ad A adV 441 := by
  refine ⟨gb_T441, fun h => absurd h (by decide +kernel), fun as σ o hg => ?_⟩
  have hM : ∀ mid ∈ ([224, 403, 432] : List Nat), gc_MM l D cA ad A adV mid := (List.forall_mem_cons.mpr ⟨gm_224 hl, List.forall_mem_cons.mpr ⟨gm_403 hl, List.forall_mem_cons.mpr ⟨gm_432 hl, fun _ h => nomatch h⟩⟩⟩)
  replace hg : c_X11_classWindows as gaSH σ some = some o := hg
  unfold c_X11_classWindows at hg
  split at hg
  · skip
    rename_i r0 a b
    obtain ⟨hb, hg⟩ := gc_bif hg
    obtain rfl := Nat.eq_of_beq_eq_true hb
    obtain ⟨q, hq, hg⟩ := gc_bind hg
    cases q with
    | inl x =>
      obtain rfl := Option.some.inj hg
      exact gc_metP (maxL := 3) (lf := true) hl gc_pnX11 rfl gb_oX11 gc_rk_X11_classWindows gb_nX11 hM gc_ck_X11_classWindows (t_X11_classWindows a b σ _ hq) gd_hoIXl rfl (fun v hv => by cases hv; exact Or.inl rfl) (Nat.le_of_ble_eq_true rfl) rfl
    | inr E =>
      obtain rfl := Option.some.inj hg
      exact gc_metP (maxL := 3) (lf := true) hl gc_pnX11 rfl gb_oX11 gc_rk_X11_classWindows gb_nX11 hM gc_ck_X11_classWindows (t_X11_classWindows a b σ _ hq) gd_hoIXr rfl (fun v hv => by cases hv) (Nat.le_of_ble_eq_true rfl) rfl
  · cases hg
theorem gc_rk_X11_undo : cl_X11_undo.all (gb_rk gb_flX11 gb_slX11 gb_nlX11 gb_llX11 gb_tlX11 cX11_undo) = true := by decide +kernel
theorem gc_ck_X11_undo : cl_X11_undo.all (gc_ck gb_lkX11 gb_lnX11 [241] 3) = true := by decide +kernel
theorem gm_444 (hl : l.stackTraces = false) : gc_MM l D cA ad A adV 444 := by
  refine ⟨gb_T444, fun h => absurd h (by decide +kernel), fun as σ o hg => ?_⟩
  have hM : ∀ mid ∈ ([241] : List Nat), gc_MM l D cA ad A adV mid := (List.forall_mem_cons.mpr ⟨gm_241 hl, fun _ h => nomatch h⟩)
  replace hg : c_X11_undo as gaSH σ some = some o := hg
  unfold c_X11_undo at hg
  split at hg
  · skip
    rename_i r0
    obtain ⟨hb, hg⟩ := gc_bif hg
    obtain rfl := Nat.eq_of_beq_eq_true hb
    obtain ⟨q, hq, hg⟩ := gc_bind hg
    obtain ⟨q, s1⟩ := q
    cases q with
    | inl x =>
      obtain rfl := Option.some.inj hg
      exact gc_metG (maxL := 1) (lf := true) hl gc_pnX11 rfl gb_oX11 gc_rk_X11_undo gb_nX11 hM gc_ck_X11_undo (t_X11_undo σ _ hq) gc_hoIXl rfl (fun v hv => by cases hv; exact Or.inl rfl) (Nat.le_of_ble_eq_true rfl) rfl
    | inr E =>
      obtain rfl := Option.some.inj hg
      exact gc_metG (maxL := 1) (lf := true) hl gc_pnX11 rfl gb_oX11 gc_rk_X11_undo gb_nX11 hM gc_ck_X11_undo (t_X11_undo σ _ hq) gc_hoIXr rfl (fun v hv => by cases hv) (Nat.le_of_ble_eq_true rfl) rfl
  · cases hg
theorem gc_rk_X8_readTeacher : cl_X8_readTeacher.all (gb_rk gb_flX8 gb_slX8 gb_nlX8 gb_llX8 gb_tlX8 cX8_readTeacher) = true := by decide +kernel
theorem gc_ck_X8_readTeacher : cl_X8_readTeacher.all (gc_ck gb_lkX8 gb_lnX8 [23, 25, 26, 27, 31, 32] 4) = true := by decide +kernel
theorem gm_33 (hl : l.stackTraces = false) : gc_MM l D cA ad A adV 33 := by
  refine ⟨gb_T33, fun h => absurd h (by decide +kernel), fun as σ o hg => ?_⟩
  have hM : ∀ mid ∈ ([23, 25, 26, 27, 31, 32] : List Nat), gc_MM l D cA ad A adV mid := (List.forall_mem_cons.mpr ⟨gm_23 hl, List.forall_mem_cons.mpr ⟨gm_25 hl, List.forall_mem_cons.mpr ⟨gm_26 hl, List.forall_mem_cons.mpr ⟨gm_27 hl, List.forall_mem_cons.mpr ⟨gm_31 hl, List.forall_mem_cons.mpr ⟨gm_32 hl, fun _ h => nomatch h⟩⟩⟩⟩⟩⟩)
  replace hg : c_X8_readTeacher as gaSH σ some = some o := hg
  unfold c_X8_readTeacher at hg
  split at hg
  · skip
    rename_i r0
    obtain ⟨hb, hg⟩ := gc_bif hg
    obtain rfl := Nat.eq_of_beq_eq_true hb
    obtain ⟨q, hq, hg⟩ := gc_bind hg
    obtain rfl := Option.some.inj hg
    exact gc_metG (maxL := 4) (lf := true) hl gc_pnX8 rfl gb_oX8 gc_rk_X8_readTeacher gb_nX8 hM gc_ck_X8_readTeacher (t_X8_readTeacher σ _ hq) gc_hoI rfl (fun v hv => by cases hv; exact Or.inr ⟨rfl, z_X8_readTeacher σ _ hq⟩) (Nat.le_of_ble_eq_true rfl) rfl
  · cases hg
theorem gc_rk_X8_readLesson : cl_X8_readLesson.all (gb_rk gb_flX8 gb_slX8 gb_nlX8 gb_llX8 gb_tlX8 cX8_readLesson) = true := by decide +kernel
theorem gc_ck_X8_readLesson : cl_X8_readLesson.all (gc_ck gb_lkX8 gb_lnX8 [1, 23, 25, 26, 27, 38, 40, 42, 43] 4) = true := by decide +kernel
theorem gm_44 (hl : l.stackTraces = false) : gc_MM l D cA ad A adV 44 := by
  refine ⟨gb_T44, fun h => absurd h (by decide +kernel), fun as σ o hg => ?_⟩
  have hM : ∀ mid ∈ ([1, 23, 25, 26, 27, 38, 40, 42, 43] : List Nat), gc_MM l D cA ad A adV mid := (List.forall_mem_cons.mpr ⟨gm_1 hl, List.forall_mem_cons.mpr ⟨gm_23 hl, List.forall_mem_cons.mpr ⟨gm_25 hl, List.forall_mem_cons.mpr ⟨gm_26 hl, List.forall_mem_cons.mpr ⟨gm_27 hl, List.forall_mem_cons.mpr ⟨gm_38 hl, List.forall_mem_cons.mpr ⟨gm_40 hl, List.forall_mem_cons.mpr ⟨gm_42 hl, List.forall_mem_cons.mpr ⟨gm_43 hl, fun _ h => nomatch h⟩⟩⟩⟩⟩⟩⟩⟩⟩)
  replace hg : c_X8_readLesson as gaSH σ some = some o := hg
  unfold c_X8_readLesson at hg
  split at hg
  · skip
    rename_i r0
    obtain ⟨hb, hg⟩ := gc_bif hg
    obtain rfl := Nat.eq_of_beq_eq_true hb
    obtain ⟨q, hq, hg⟩ := gc_bind hg
    obtain rfl := Option.some.inj hg
    exact gc_metG (maxL := 5) (lf := true) hl gc_pnX8 rfl gb_oX8 gc_rk_X8_readLesson gb_nX8 hM gc_ck_X8_readLesson (t_X8_readLesson σ _ hq) gc_hoI rfl (fun v hv => by cases hv; exact Or.inr ⟨rfl, z_X8_readLesson σ _ hq⟩) (Nat.le_of_ble_eq_true rfl) rfl
  · cases hg
theorem gc_rk_X3_begin : cl_X3_begin.all (gb_rk gb_flX3 gb_slX3 gb_nlX3 gb_llX3 gb_tlX3 cX3_begin) = true := by decide +kernel
theorem gc_ck_X3_begin : cl_X3_begin.all (gc_ck gb_lkX3 gb_lnX3 [2, 51] 4) = true := by decide +kernel
theorem gm_52 (hl : l.stackTraces = false) : gc_MM l D cA ad A adV 52 := by
  refine ⟨gb_T52, fun h => absurd h (by decide +kernel), fun as σ o hg => ?_⟩
  have hM : ∀ mid ∈ ([2, 51] : List Nat), gc_MM l D cA ad A adV mid := (List.forall_mem_cons.mpr ⟨gm_2 hl, List.forall_mem_cons.mpr ⟨gm_51 hl, fun _ h => nomatch h⟩⟩)
  replace hg : c_X3_begin as gaSH σ some = some o := hg
  unfold c_X3_begin at hg
  split at hg
  · skip
    rename_i r0
    obtain ⟨hb, hg⟩ := gc_bif hg
    obtain rfl := Nat.eq_of_beq_eq_true hb
    obtain ⟨q, hq, hg⟩ := gc_bind hg
    obtain rfl := Option.some.inj hg
    exact gc_metG (maxL := 2) (lf := true) hl gc_pnX3 rfl gb_oX3 gc_rk_X3_begin gb_nX3 hM gc_ck_X3_begin (t_X3_begin σ _ hq) gc_hoV rfl (fun v hv => by cases hv; rfl) (Nat.le_of_ble_eq_true rfl) rfl
  · cases hg
theorem gc_rk_X12_number : cl_X12_number.all (gb_rk gb_flX12 gb_slX12 gb_nlX12 gb_llX12 gb_tlX12 cX12_number) = true := by decide +kernel
theorem gc_ck_X12_number : cl_X12_number.all (gc_ck gb_lkX12 gb_lnX12 [61, 65] 4) = true := by decide +kernel
theorem gm_66 (hl : l.stackTraces = false) : gc_MM l D cA ad A adV 66 := by
  refine ⟨gb_T66, fun h => absurd h (by decide +kernel), fun as σ o hg => ?_⟩
  have hM : ∀ mid ∈ ([61, 65] : List Nat), gc_MM l D cA ad A adV mid := (List.forall_mem_cons.mpr ⟨gm_61 hl, List.forall_mem_cons.mpr ⟨gm_65 hl, fun _ h => nomatch h⟩⟩)
  replace hg : c_X12_number as gaSH σ some = some o := hg
  unfold c_X12_number at hg
  split at hg
  · skip
    rename_i r0 a b
    obtain ⟨hb, hg⟩ := gc_bif hg
    obtain rfl := Nat.eq_of_beq_eq_true hb
    obtain ⟨q, hq, hg⟩ := gc_bind hg
    obtain rfl := Option.some.inj hg
    exact gc_metG (maxL := 4) (lf := true) hl gc_pnX12 rfl gb_oX12 gc_rk_X12_number gb_nX12 hM gc_ck_X12_number (t_X12_number a b σ _ hq) gc_hoI rfl (fun v hv => by cases hv; exact Or.inl rfl) (Nat.le_of_ble_eq_true rfl) rfl
  · cases hg
end
