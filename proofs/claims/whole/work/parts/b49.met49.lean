section
variable {l : Launch} {D : va_G} {cA : Nat → ClassId} {ad : Nat → Nat} {A : Nat → Prop} {adV : Nat → Nat}
theorem gc_rk_X12_doStep : cl_X12_doStep.all (gb_rk gb_flX12 gb_slX12 gb_nlX12 gb_llX12 gb_tlX12 cX12_doStep) = true := by decide +kernel
theorem gc_ck_X12_doStep : cl_X12_doStep.all (gc_ck gb_lkX12 gb_lnX12 [160, 161, 162, 163, 164, 165] 10) = true := by decide +kernel
theorem gm_166 (hl : l.stackTraces = false) : gc_MM l D cA ad A adV 166 := by
  refine ⟨gb_T166, fun h => absurd h (by decide +kernel), fun as σ o hg => ?_⟩
  have hM : ∀ mid ∈ ([160, 161, 162, 163, 164, 165] : List Nat), gc_MM l D cA ad A adV mid := (List.forall_mem_cons.mpr ⟨gm_160 hl, List.forall_mem_cons.mpr ⟨gm_161 hl, List.forall_mem_cons.mpr ⟨gm_162 hl, List.forall_mem_cons.mpr ⟨gm_163 hl, List.forall_mem_cons.mpr ⟨gm_164 hl, List.forall_mem_cons.mpr ⟨gm_165 hl, fun _ h => nomatch h⟩⟩⟩⟩⟩⟩)
  replace hg : c_X12_doStep as gaSH σ some = some o := hg
  unfold c_X12_doStep at hg
  split at hg
  · skip
    rename_i r0 a b c
    obtain ⟨hb, hg⟩ := gc_bif hg
    obtain rfl := Nat.eq_of_beq_eq_true hb
    obtain ⟨q, hq, hg⟩ := gc_bind hg
    obtain rfl := Option.some.inj hg
    exact gc_metG (maxL := 4) (lf := true) hl gc_pnX12 rfl gb_oX12 gc_rk_X12_doStep gb_nX12 hM gc_ck_X12_doStep (t_X12_doStep a b c σ _ hq) gc_hoV rfl (fun v hv => by cases hv; rfl) (Nat.le_of_ble_eq_true rfl) rfl
  · cases hg
theorem gc_rk_X12_repairAll : cl_X12_repairAll.all (gb_rk gb_flX12 gb_slX12 gb_nlX12 gb_llX12 gb_tlX12 cX12_repairAll) = true := by decide +kernel
theorem gc_ck_X12_repairAll : cl_X12_repairAll.all (gc_ck gb_lkX12 gb_lnX12 [163, 174] 10) = true := by decide +kernel
theorem gm_181 (hl : l.stackTraces = false) : gc_MM l D cA ad A adV 181 := by
  refine ⟨gb_T181, fun h => absurd h (by decide +kernel), fun as σ o hg => ?_⟩
  have hM : ∀ mid ∈ ([163, 174] : List Nat), gc_MM l D cA ad A adV mid := (List.forall_mem_cons.mpr ⟨gm_163 hl, List.forall_mem_cons.mpr ⟨gm_174 hl, fun _ h => nomatch h⟩⟩)
  replace hg : c_X12_repairAll as gaSH σ some = some o := hg
  unfold c_X12_repairAll at hg
  split at hg
  · skip
    rename_i r0
    obtain ⟨hb, hg⟩ := gc_bif hg
    obtain rfl := Nat.eq_of_beq_eq_true hb
    obtain ⟨q, hq, hg⟩ := gc_bind hg
    obtain rfl := Option.some.inj hg
    exact gc_metG (maxL := 1) (lf := true) hl gc_pnX12 rfl gb_oX12 gc_rk_X12_repairAll gb_nX12 hM gc_ck_X12_repairAll (t_X12_repairAll σ _ hq) gc_hoI rfl (fun v hv => by cases hv; exact Or.inl rfl) (Nat.le_of_ble_eq_true rfl) rfl
  · cases hg
theorem gc_rk_X12_goesThrough : cl_X12_goesThrough.all (gb_rk gb_flX12 gb_slX12 gb_nlX12 gb_llX12 gb_tlX12 cX12_goesThrough) = true := by decide +kernel
theorem gc_ck_X12_goesThrough : cl_X12_goesThrough.all (gc_ck gb_lkX12 gb_lnX12 [60, 61, 62, 127, 128, 159, 166] 11) = true := by decide +kernel
theorem gm_167 (hl : l.stackTraces = false) : gc_MM l D cA ad A adV 167 := by
  refine ⟨gb_T167, fun h => absurd h (by decide +kernel), fun as σ o hg => ?_⟩
  have hM : ∀ mid ∈ ([60, 61, 62, 127, 128, 159, 166] : List Nat), gc_MM l D cA ad A adV mid := (List.forall_mem_cons.mpr ⟨gm_60 hl, List.forall_mem_cons.mpr ⟨gm_61 hl, List.forall_mem_cons.mpr ⟨gm_62 hl, List.forall_mem_cons.mpr ⟨gm_127 hl, List.forall_mem_cons.mpr ⟨gm_128 hl, List.forall_mem_cons.mpr ⟨gm_159 hl, List.forall_mem_cons.mpr ⟨gm_166 hl, fun _ h => nomatch h⟩⟩⟩⟩⟩⟩⟩)
  replace hg : c_X12_goesThrough as gaSH σ some = some o := hg
  unfold c_X12_goesThrough at hg
  split at hg
  · skip
    rename_i r0
    obtain ⟨hb, hg⟩ := gc_bif hg
    obtain rfl := Nat.eq_of_beq_eq_true hb
    obtain ⟨q, hq, hg⟩ := gc_bind hg
    obtain rfl := Option.some.inj hg
    exact gc_metG (maxL := 6) (lf := true) hl gc_pnX12 rfl gb_oX12 gc_rk_X12_goesThrough gb_nX12 hM gc_ck_X12_goesThrough (t_X12_goesThrough σ _ hq) gc_hoV rfl (fun v hv => by cases hv; rfl) (Nat.le_of_ble_eq_true rfl) rfl
  · cases hg
theorem gc_rk_X12_runScript : cl_X12_runScript.all (gb_rk gb_flX12 gb_slX12 gb_nlX12 gb_llX12 gb_tlX12 cX12_runScript) = true := by decide +kernel
theorem gc_ck_X12_runScript : cl_X12_runScript.all (gc_ck gb_lkX12 gb_lnX12 [59, 61, 125, 126, 167] 12) = true := by decide +kernel
theorem gm_168 (hl : l.stackTraces = false) : gc_MM l D cA ad A adV 168 := by
  refine ⟨gb_T168, fun h => absurd h (by decide +kernel), fun as σ o hg => ?_⟩
  have hM : ∀ mid ∈ ([59, 61, 125, 126, 167] : List Nat), gc_MM l D cA ad A adV mid := (List.forall_mem_cons.mpr ⟨gm_59 hl, List.forall_mem_cons.mpr ⟨gm_61 hl, List.forall_mem_cons.mpr ⟨gm_125 hl, List.forall_mem_cons.mpr ⟨gm_126 hl, List.forall_mem_cons.mpr ⟨gm_167 hl, fun _ h => nomatch h⟩⟩⟩⟩⟩)
  replace hg : c_X12_runScript as gaSH σ some = some o := hg
  unfold c_X12_runScript at hg
  split at hg
  · skip
    rename_i r0
    obtain ⟨hb, hg⟩ := gc_bif hg
    obtain rfl := Nat.eq_of_beq_eq_true hb
    obtain ⟨q, hq, hg⟩ := gc_bind hg
    obtain rfl := Option.some.inj hg
    exact gc_metG (maxL := 2) (lf := true) hl gc_pnX12 rfl gb_oX12 gc_rk_X12_runScript gb_nX12 hM gc_ck_X12_runScript (t_X12_runScript σ _ hq) gc_hoI rfl (fun v hv => by cases hv; exact Or.inl rfl) (Nat.le_of_ble_eq_true rfl) rfl
  · cases hg
end
