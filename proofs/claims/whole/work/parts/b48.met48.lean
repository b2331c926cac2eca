section
variable {l : Launch} {D : va_G} {cA : Nat → ClassId} {ad : Nat → Nat} {A : Nat → Prop} {adV : Nat → Nat}
theorem gc_rk_X12_opensThing : cl_X12_opensThing.all (gb_rk gb_flX12 gb_slX12 gb_nlX12 gb_llX12 gb_tlX12 cX12_opensThing) = true := by decide +kernel
theorem gc_ck_X12_opensThing : cl_X12_opensThing.all (gc_ck gb_lkX12 gb_lnX12 [61, 62] 4) = true := by decide +kernel
theorem gm_67 (hl : l.stackTraces = false) : gc_MM l D cA ad A adV 67 := by
  refine ⟨gb_T67, fun h => absurd h (by decide +kernel), fun as σ o hg => ?_⟩
  have hM : ∀ mid ∈ ([61, 62] : List Nat), gc_MM l D cA ad A adV mid := (List.forall_mem_cons.mpr ⟨gm_61 hl, List.forall_mem_cons.mpr ⟨gm_62 hl, fun _ h => nomatch h⟩⟩)
  replace hg : c_X12_opensThing as gaSH σ some = some o := hg
  unfold c_X12_opensThing at hg
  split at hg
  · skip
    rename_i r0 a b
    obtain ⟨hb, hg⟩ := gc_bif hg
    obtain rfl := Nat.eq_of_beq_eq_true hb
    obtain ⟨q, hq, hg⟩ := gc_bind hg
    obtain rfl := Option.some.inj hg
    exact gc_metG (maxL := 3) (lf := true) hl gc_pnX12 rfl gb_oX12 gc_rk_X12_opensThing gb_nX12 hM gc_ck_X12_opensThing (t_X12_opensThing a b σ _ hq) gc_hoI rfl (fun v hv => by cases hv; exact Or.inr ⟨rfl, z_X12_opensThing a b σ _ hq⟩) (Nat.le_of_ble_eq_true rfl) rfl
  · cases hg
theorem gc_rk_X2_repairByChain : cl_X2_repairByChain.all (gb_rk gb_flX2 gb_slX2 gb_nlX2 gb_llX2 gb_tlX2 cX2_repairByChain) = true := by decide +kernel
theorem gc_ck_X2_repairByChain : cl_X2_repairByChain.all (gc_ck gb_lkX2 gb_lnX2 [1, 100, 101, 102] 4) = true := by decide +kernel
theorem gm_103 (hl : l.stackTraces = false) : gc_MM l D cA ad A adV 103 := by
  refine ⟨gb_T103, fun h => absurd h (by decide +kernel), fun as σ o hg => ?_⟩
  have hM : ∀ mid ∈ ([1, 100, 101, 102] : List Nat), gc_MM l D cA ad A adV mid := (List.forall_mem_cons.mpr ⟨gm_1 hl, List.forall_mem_cons.mpr ⟨gm_100 hl, List.forall_mem_cons.mpr ⟨gm_101 hl, List.forall_mem_cons.mpr ⟨gm_102 hl, fun _ h => nomatch h⟩⟩⟩⟩)
  replace hg : c_X2_repairByChain as gaSH σ some = some o := hg
  unfold c_X2_repairByChain at hg
  split at hg
  · skip
    rename_i r0 a
    obtain ⟨hb, hg⟩ := gc_bif hg
    obtain rfl := Nat.eq_of_beq_eq_true hb
    obtain ⟨q, hq, hg⟩ := gc_bind hg
    obtain rfl := Option.some.inj hg
    exact gc_metG (maxL := 8) (lf := true) hl gc_pnX2 rfl gb_oX2 gc_rk_X2_repairByChain gb_nX2 hM gc_ck_X2_repairByChain (t_X2_repairByChain a σ _ hq) gc_hoI rfl (fun v hv => by cases hv; exact Or.inr ⟨rfl, z_X2_repairByChain a σ _ hq⟩) (Nat.le_of_ble_eq_true rfl) rfl
  · cases hg
theorem gc_rk_X4_againstMove : cl_X4_againstMove.all (gb_rk gb_flX4 gb_slX4 gb_nlX4 gb_llX4 gb_tlX4 cX4_againstMove) = true := by decide +kernel
theorem gc_ck_X4_againstMove : cl_X4_againstMove.all (gc_ck gb_lkX4 gb_lnX4 [1, 88, 101, 108, 109] 4) = true := by decide +kernel
theorem gm_110 (hl : l.stackTraces = false) : gc_MM l D cA ad A adV 110 := by
  refine ⟨gb_T110, fun h => absurd h (by decide +kernel), fun as σ o hg => ?_⟩
  have hM : ∀ mid ∈ ([1, 88, 101, 108, 109] : List Nat), gc_MM l D cA ad A adV mid := (List.forall_mem_cons.mpr ⟨gm_1 hl, List.forall_mem_cons.mpr ⟨gm_88 hl, List.forall_mem_cons.mpr ⟨gm_101 hl, List.forall_mem_cons.mpr ⟨gm_108 hl, List.forall_mem_cons.mpr ⟨gm_109 hl, fun _ h => nomatch h⟩⟩⟩⟩⟩)
  replace hg : c_X4_againstMove as gaSH σ some = some o := hg
  unfold c_X4_againstMove at hg
  split at hg
  · skip
    rename_i r0 a b
    obtain ⟨hb, hg⟩ := gc_bif hg
    obtain rfl := Nat.eq_of_beq_eq_true hb
    obtain ⟨q, hq, hg⟩ := gc_bind hg
    obtain rfl := Option.some.inj hg
    exact gc_metP (maxL := 3) (lf := true) hl gc_pnX4 rfl gb_oX4 gc_rk_X4_againstMove gb_nX4 hM gc_ck_X4_againstMove (t_X4_againstMove a b σ _ hq) gd_hoI rfl (fun v hv => by cases hv; exact Or.inl rfl) (Nat.le_of_ble_eq_true rfl) rfl
  · cases hg
theorem gc_rk_X4_againstExchange : cl_X4_againstExchange.all (gb_rk gb_flX4 gb_slX4 gb_nlX4 gb_llX4 gb_tlX4 cX4_againstExchange) = true := by decide +kernel
theorem gc_ck_X4_againstExchange : cl_X4_againstExchange.all (gc_ck gb_lkX4 gb_lnX4 [1, 88, 109, 112] 4) = true := by decide +kernel
theorem gm_113 (hl : l.stackTraces = false) : gc_MM l D cA ad A adV 113 := by
  refine ⟨gb_T113, fun h => absurd h (by decide +kernel), fun as σ o hg => ?_⟩
  have hM : ∀ mid ∈ ([1, 88, 109, 112] : List Nat), gc_MM l D cA ad A adV mid := (List.forall_mem_cons.mpr ⟨gm_1 hl, List.forall_mem_cons.mpr ⟨gm_88 hl, List.forall_mem_cons.mpr ⟨gm_109 hl, List.forall_mem_cons.mpr ⟨gm_112 hl, fun _ h => nomatch h⟩⟩⟩⟩)
  replace hg : c_X4_againstExchange as gaSH σ some = some o := hg
  unfold c_X4_againstExchange at hg
  split at hg
  · skip
    rename_i r0 a b
    obtain ⟨hb, hg⟩ := gc_bif hg
    obtain rfl := Nat.eq_of_beq_eq_true hb
    obtain ⟨q, hq, hg⟩ := gc_bind hg
    obtain rfl := Option.some.inj hg
    exact gc_metP (maxL := 3) (lf := true) hl gc_pnX4 rfl gb_oX4 gc_rk_X4_againstExchange gb_nX4 hM gc_ck_X4_againstExchange (t_X4_againstExchange a b σ _ hq) gd_hoI rfl (fun v hv => by cases hv; exact Or.inl rfl) (Nat.le_of_ble_eq_true rfl) rfl
  · cases hg
theorem gc_rk_X2_letSupervise : cl_X2_letSupervise.all (gb_rk gb_flX2 gb_slX2 gb_nlX2 gb_llX2 gb_tlX2 cX2_letSupervise) = true := by decide +kernel
theorem gc_ck_X2_letSupervise : cl_X2_letSupervise.all (gc_ck gb_lkX2 gb_lnX2 [117, 118] 4) = true := by decide +kernel
theorem gm_119 (hl : l.stackTraces = false) : gc_MM l D cA ad A adV 119 := by
  refine ⟨gb_T119, fun h => absurd h (by decide +kernel), fun as σ o hg => ?_⟩
  have hM : ∀ mid ∈ ([117, 118] : List Nat), gc_MM l D cA ad A adV mid := (List.forall_mem_cons.mpr ⟨gm_117 hl, List.forall_mem_cons.mpr ⟨gm_118 hl, fun _ h => nomatch h⟩⟩)
  replace hg : c_X2_letSupervise as gaSH σ some = some o := hg
  unfold c_X2_letSupervise at hg
  split at hg
  · skip
    rename_i r0 a b
    obtain ⟨hb, hg⟩ := gc_bif hg
    obtain rfl := Nat.eq_of_beq_eq_true hb
    obtain ⟨q, hq, hg⟩ := gc_bind hg
    obtain rfl := Option.some.inj hg
    exact gc_metG (maxL := 3) (lf := true) hl gc_pnX2 rfl gb_oX2 gc_rk_X2_letSupervise gb_nX2 hM gc_ck_X2_letSupervise (t_X2_letSupervise a b σ _ hq) gc_hoI rfl (fun v hv => by cases hv; exact Or.inr ⟨rfl, z_X2_letSupervise a b σ _ hq⟩) (Nat.le_of_ble_eq_true rfl) rfl
  · cases hg
theorem gc_rk_X2_letCover : cl_X2_letCover.all (gb_rk gb_flX2 gb_slX2 gb_nlX2 gb_llX2 gb_tlX2 cX2_letCover) = true := by decide +kernel
theorem gc_ck_X2_letCover : cl_X2_letCover.all (gc_ck gb_lkX2 gb_lnX2 [102, 120] 4) = true := by decide +kernel
theorem gm_121 (hl : l.stackTraces = false) : gc_MM l D cA ad A adV 121 := by
  refine ⟨gb_T121, fun h => absurd h (by decide +kernel), fun as σ o hg => ?_⟩
  have hM : ∀ mid ∈ ([102, 120] : List Nat), gc_MM l D cA ad A adV mid := (List.forall_mem_cons.mpr ⟨gm_102 hl, List.forall_mem_cons.mpr ⟨gm_120 hl, fun _ h => nomatch h⟩⟩)
  replace hg : c_X2_letCover as gaSH σ some = some o := hg
  unfold c_X2_letCover at hg
  split at hg
  · skip
    rename_i r0 a b
    obtain ⟨hb, hg⟩ := gc_bif hg
    obtain rfl := Nat.eq_of_beq_eq_true hb
    obtain ⟨q, hq, hg⟩ := gc_bind hg
    obtain rfl := Option.some.inj hg
    exact gc_metG (maxL := 3) (lf := true) hl gc_pnX2 rfl gb_oX2 gc_rk_X2_letCover gb_nX2 hM gc_ck_X2_letCover (t_X2_letCover a b σ _ hq) gc_hoI rfl (fun v hv => by cases hv; exact Or.inr ⟨rfl, z_X2_letCover a b σ _ hq⟩) (Nat.le_of_ble_eq_true rfl) rfl
  · cases hg
theorem gc_rk_X12_figure : cl_X12_figure.all (gb_rk gb_flX12 gb_slX12 gb_nlX12 gb_llX12 gb_tlX12 cX12_figure) = true := by decide +kernel
theorem gc_ck_X12_figure : cl_X12_figure.all (gc_ck gb_lkX12 gb_lnX12 [57, 61, 62, 64] 4) = true := by decide +kernel
theorem gm_128 (hl : l.stackTraces = false) : gc_MM l D cA ad A adV 128 := by
  refine ⟨gb_T128, fun h => absurd h (by decide +kernel), fun as σ o hg => ?_⟩
  have hM : ∀ mid ∈ ([57, 61, 62, 64] : List Nat), gc_MM l D cA ad A adV mid := (List.forall_mem_cons.mpr ⟨gm_57 hl, List.forall_mem_cons.mpr ⟨gm_61 hl, List.forall_mem_cons.mpr ⟨gm_62 hl, List.forall_mem_cons.mpr ⟨gm_64 hl, fun _ h => nomatch h⟩⟩⟩⟩)
  replace hg : c_X12_figure as gaSH σ some = some o := hg
  unfold c_X12_figure at hg
  split at hg
  · skip
    rename_i r0
    obtain ⟨hb, hg⟩ := gc_bif hg
    obtain rfl := Nat.eq_of_beq_eq_true hb
    obtain ⟨q, hq, hg⟩ := gc_bind hg
    obtain rfl := Option.some.inj hg
    exact gc_metG (maxL := 2) (lf := true) hl gc_pnX12 rfl gb_oX12 gc_rk_X12_figure gb_nX12 hM gc_ck_X12_figure (t_X12_figure σ _ hq) gc_hoI rfl (fun v hv => by cases hv; exact Or.inl rfl) (Nat.le_of_ble_eq_true rfl) rfl
  · cases hg
theorem gc_rk_X12_goes3 : cl_X12_goes3.all (gb_rk gb_flX12 gb_slX12 gb_nlX12 gb_llX12 gb_tlX12 cX12_goes) = true := by decide +kernel
theorem gc_ck_X12_goes3 : cl_X12_goes3.all (gc_ck gb_lkX12 gb_lnX12 [137, 139, 143, 144, 145, 148] 4) = true := by decide +kernel
theorem gm_149 (hl : l.stackTraces = false) : gc_MM l D cA ad A adV 149 := by
  refine ⟨gb_T149, fun h => absurd h (by decide +kernel), fun as σ o hg => ?_⟩
  have hM : ∀ mid ∈ ([137, 139, 143, 144, 145, 148] : List Nat), gc_MM l D cA ad A adV mid := (List.forall_mem_cons.mpr ⟨gm_137 hl, List.forall_mem_cons.mpr ⟨gm_139 hl, List.forall_mem_cons.mpr ⟨gm_143 hl, List.forall_mem_cons.mpr ⟨gm_144 hl, List.forall_mem_cons.mpr ⟨gm_145 hl, List.forall_mem_cons.mpr ⟨gm_148 hl, fun _ h => nomatch h⟩⟩⟩⟩⟩⟩)
  replace hg : c_X12_goes3 as gaSH σ some = some o := hg
  unfold c_X12_goes3 at hg
  split at hg
  · skip
    rename_i r0 a b c d
    obtain ⟨hb, hg⟩ := gc_bif hg
    obtain rfl := Nat.eq_of_beq_eq_true hb
    obtain ⟨q, hq, hg⟩ := gc_bind hg
    obtain rfl := Option.some.inj hg
    exact gc_metG (maxL := 9) (lf := true) hl gc_pnX12 rfl gb_oX12 gc_rk_X12_goes3 gb_nX12 hM gc_ck_X12_goes3 (t_X12_goes3 a b c d σ _ hq) gc_hoV rfl (fun v hv => by cases hv; rfl) (Nat.le_of_ble_eq_true rfl) rfl
  · cases hg
theorem gc_rk_X12_reasonToCover : cl_X12_reasonToCover.all (gb_rk gb_flX12 gb_slX12 gb_nlX12 gb_llX12 gb_tlX12 cX12_reasonToCover) = true := by decide +kernel
theorem gc_ck_X12_reasonToCover : cl_X12_reasonToCover.all (gc_ck gb_lkX12 gb_lnX12 [137, 139, 143, 145, 148] 4) = true := by decide +kernel
theorem gm_157 (hl : l.stackTraces = false) : gc_MM l D cA ad A adV 157 := by
  refine ⟨gb_T157, fun h => absurd h (by decide +kernel), fun as σ o hg => ?_⟩
  have hM : ∀ mid ∈ ([137, 139, 143, 145, 148] : List Nat), gc_MM l D cA ad A adV mid := (List.forall_mem_cons.mpr ⟨gm_137 hl, List.forall_mem_cons.mpr ⟨gm_139 hl, List.forall_mem_cons.mpr ⟨gm_143 hl, List.forall_mem_cons.mpr ⟨gm_145 hl, List.forall_mem_cons.mpr ⟨gm_148 hl, fun _ h => nomatch h⟩⟩⟩⟩⟩)
  replace hg : c_X12_reasonToCover as gaSH σ some = some o := hg
  unfold c_X12_reasonToCover at hg
  split at hg
  · skip
    rename_i r0 a b
    obtain ⟨hb, hg⟩ := gc_bif hg
    obtain rfl := Nat.eq_of_beq_eq_true hb
    obtain ⟨q, hq, hg⟩ := gc_bind hg
    obtain rfl := Option.some.inj hg
    exact gc_metP (maxL := 4) (lf := true) hl gc_pnX12 rfl gb_oX12 gc_rk_X12_reasonToCover gb_nX12 hM gc_ck_X12_reasonToCover (t_X12_reasonToCover a b σ _ hq) gd_hoI rfl (fun v hv => by cases hv; exact Or.inl rfl) (Nat.le_of_ble_eq_true rfl) rfl
  · cases hg
theorem gc_rk_X11_reset : cl_X11_reset.all (gb_rk gb_flX11 gb_slX11 gb_nlX11 gb_llX11 gb_tlX11 cX11_reset) = true := by decide +kernel
theorem gc_ck_X11_reset : cl_X11_reset.all (gc_ck gb_lkX11 gb_lnX11 [51, 77, 78, 187] 4) = true := by decide +kernel
theorem gm_188 (hl : l.stackTraces = false) : gc_MM l D cA ad A adV 188 := by
  refine ⟨gb_T188, fun h => absurd h (by decide +kernel), fun as σ o hg => ?_⟩
  have hM : ∀ mid ∈ ([51, 77, 78, 187] : List Nat), gc_MM l D cA ad A adV mid := (List.forall_mem_cons.mpr ⟨gm_51 hl, List.forall_mem_cons.mpr ⟨gm_77 hl, List.forall_mem_cons.mpr ⟨gm_78 hl, List.forall_mem_cons.mpr ⟨gm_187 hl, fun _ h => nomatch h⟩⟩⟩⟩)
  replace hg : c_X11_reset as gaSH σ some = some o := hg
  unfold c_X11_reset at hg
  split at hg
  · skip
    rename_i r0
    obtain ⟨hb, hg⟩ := gc_bif hg
    obtain rfl := Nat.eq_of_beq_eq_true hb
    obtain ⟨q, hq, hg⟩ := gc_bind hg
    obtain rfl := Option.some.inj hg
    exact gc_metG (maxL := 2) (lf := true) hl gc_pnX11 rfl gb_oX11 gc_rk_X11_reset gb_nX11 hM gc_ck_X11_reset (t_X11_reset σ _ hq) gc_hoI rfl (fun v hv => by cases hv; exact Or.inl rfl) (Nat.le_of_ble_eq_true rfl) rfl
  · cases hg
theorem gc_rk_X12_partners : cl_X12_partners.all (gb_rk gb_flX12 gb_slX12 gb_nlX12 gb_llX12 gb_tlX12 cX12_partners) = true := by decide +kernel
theorem gc_ck_X12_partners : cl_X12_partners.all (gc_ck gb_lkX12 gb_lnX12 [129, 173, 200] 4) = true := by decide +kernel
theorem gm_201 (hl : l.stackTraces = false) : gc_MM l D cA ad A adV 201 := by
  refine ⟨gb_T201, fun h => absurd h (by decide +kernel), fun as σ o hg => ?_⟩
  have hM : ∀ mid ∈ ([129, 173, 200] : List Nat), gc_MM l D cA ad A adV mid := (List.forall_mem_cons.mpr ⟨gm_129 hl, List.forall_mem_cons.mpr ⟨gm_173 hl, List.forall_mem_cons.mpr ⟨gm_200 hl, fun _ h => nomatch h⟩⟩⟩)
  replace hg : c_X12_partners as gaSH σ some = some o := hg
  unfold c_X12_partners at hg
  split at hg
  · skip
    rename_i r0 a
    obtain ⟨hb, hg⟩ := gc_bif hg
    obtain rfl := Nat.eq_of_beq_eq_true hb
    obtain ⟨q, hq, hg⟩ := gc_bind hg
    obtain rfl := Option.some.inj hg
    exact gc_metG (maxL := 2) (lf := true) hl gc_pnX12 rfl gb_oX12 gc_rk_X12_partners gb_nX12 hM gc_ck_X12_partners (t_X12_partners a σ _ hq) gc_hoI rfl (fun v hv => by cases hv; exact Or.inl rfl) (Nat.le_of_ble_eq_true rfl) rfl
  · cases hg
theorem gc_rk_X12_firstPartner : cl_X12_firstPartner.all (gb_rk gb_flX12 gb_slX12 gb_nlX12 gb_llX12 gb_tlX12 cX12_firstPartner) = true := by decide +kernel
theorem gc_ck_X12_firstPartner : cl_X12_firstPartner.all (gc_ck gb_lkX12 gb_lnX12 [129, 173, 200] 4) = true := by decide +kernel
theorem gm_202 (hl : l.stackTraces = false) : gc_MM l D cA ad A adV 202 := by
  refine ⟨gb_T202, fun h => absurd h (by decide +kernel), fun as σ o hg => ?_⟩
  have hM : ∀ mid ∈ ([129, 173, 200] : List Nat), gc_MM l D cA ad A adV mid := (List.forall_mem_cons.mpr ⟨gm_129 hl, List.forall_mem_cons.mpr ⟨gm_173 hl, List.forall_mem_cons.mpr ⟨gm_200 hl, fun _ h => nomatch h⟩⟩⟩)
  replace hg : c_X12_firstPartner as gaSH σ some = some o := hg
  unfold c_X12_firstPartner at hg
  split at hg
  · skip
    rename_i r0 a
    obtain ⟨hb, hg⟩ := gc_bif hg
    obtain rfl := Nat.eq_of_beq_eq_true hb
    obtain ⟨q, hq, hg⟩ := gc_bind hg
    obtain rfl := Option.some.inj hg
    exact gc_metG (maxL := 3) (lf := true) hl gc_pnX12 rfl gb_oX12 gc_rk_X12_firstPartner gb_nX12 hM gc_ck_X12_firstPartner (t_X12_firstPartner a σ _ hq) gc_hoI rfl (fun v hv => by cases hv; exact Or.inl rfl) (Nat.le_of_ble_eq_true rfl) rfl
  · cases hg
theorem gc_rk_X12_teacher : cl_X12_teacher.all (gb_rk gb_flX12 gb_slX12 gb_nlX12 gb_llX12 gb_tlX12 cX12_teacher) = true := by decide +kernel
theorem gc_ck_X12_teacher : cl_X12_teacher.all (gc_ck gb_lkX12 gb_lnX12 [10, 146, 147, 148, 154, 155, 173] 4) = true := by decide +kernel
theorem gm_212 (hl : l.stackTraces = false) : gc_MM l D cA ad A adV 212 := by
  refine ⟨gb_T212, fun h => absurd h (by decide +kernel), fun as σ o hg => ?_⟩
  have hM : ∀ mid ∈ ([10, 146, 147, 148, 154, 155, 173] : List Nat), gc_MM l D cA ad A adV mid := (List.forall_mem_cons.mpr ⟨gm_10 hl, List.forall_mem_cons.mpr ⟨gm_146 hl, List.forall_mem_cons.mpr ⟨gm_147 hl, List.forall_mem_cons.mpr ⟨gm_148 hl, List.forall_mem_cons.mpr ⟨gm_154 hl, List.forall_mem_cons.mpr ⟨gm_155 hl, List.forall_mem_cons.mpr ⟨gm_173 hl, fun _ h => nomatch h⟩⟩⟩⟩⟩⟩⟩)
  replace hg : c_X12_teacher as gaSH σ some = some o := hg
  unfold c_X12_teacher at hg
  split at hg
  · skip
    rename_i r0 a b
    obtain ⟨hb, hg⟩ := gc_bif hg
    obtain rfl := Nat.eq_of_beq_eq_true hb
    obtain ⟨q, hq, hg⟩ := gc_bind hg
    obtain rfl := Option.some.inj hg
    exact gc_metG (maxL := 3) (lf := true) hl gc_pnX12 rfl gb_oX12 gc_rk_X12_teacher gb_nX12 hM gc_ck_X12_teacher (t_X12_teacher a b σ _ hq) gc_hoI rfl (fun v hv => by cases hv; exact Or.inl rfl) (Nat.le_of_ble_eq_true rfl) rfl
  · cases hg
theorem gc_rk_X12_spread : cl_X12_spread.all (gb_rk gb_flX12 gb_slX12 gb_nlX12 gb_llX12 gb_tlX12 cX12_spread) = true := by decide +kernel
theorem gc_ck_X12_spread : cl_X12_spread.all (gc_ck gb_lkX12 gb_lnX12 [148] 4) = true := by decide +kernel
theorem gm_230 (hl : l.stackTraces = false) : gc_MM l D cA ad A adV 230 := by
  refine ⟨gb_T230, fun h => absurd h (by decide +kernel), fun as σ o hg => ?_⟩
  have hM : ∀ mid ∈ ([148] : List Nat), gc_MM l D cA ad A adV mid := (List.forall_mem_cons.mpr ⟨gm_148 hl, fun _ h => nomatch h⟩)
  replace hg : c_X12_spread as gaSH σ some = some o := hg
  unfold c_X12_spread at hg
  split at hg
  · skip
    rename_i r0
    obtain ⟨hb, hg⟩ := gc_bif hg
    obtain rfl := Nat.eq_of_beq_eq_true hb
    obtain ⟨q, hq, hg⟩ := gc_bind hg
    obtain rfl := Option.some.inj hg
    exact gc_metG (maxL := 4) (lf := true) hl gc_pnX12 rfl gb_oX12 gc_rk_X12_spread gb_nX12 hM gc_ck_X12_spread (t_X12_spread σ _ hq) gc_hoI rfl (fun v hv => by cases hv; exact Or.inl rfl) (Nat.le_of_ble_eq_true rfl) rfl
  · cases hg
theorem gc_rk_X11_taughtShare : cl_X11_taughtShare.all (gb_rk gb_flX11 gb_slX11 gb_nlX11 gb_llX11 gb_tlX11 cX11_taughtShare) = true := by decide +kernel
theorem gc_ck_X11_taughtShare : cl_X11_taughtShare.all (gc_ck gb_lkX11 gb_lnX11 [231] 4) = true := by decide +kernel
theorem gm_232 (hl : l.stackTraces = false) : gc_MM l D cA ad A adV 232 := by
  refine ⟨gb_T232, fun h => absurd h (by decide +kernel), fun as σ o hg => ?_⟩
  have hM : ∀ mid ∈ ([231] : List Nat), gc_MM l D cA ad A adV mid := (List.forall_mem_cons.mpr ⟨gm_231 hl, fun _ h => nomatch h⟩)
  replace hg : c_X11_taughtShare as gaSH σ some = some o := hg
  unfold c_X11_taughtShare at hg
  split at hg
  · skip
    rename_i r0
    obtain ⟨hb, hg⟩ := gc_bif hg
    obtain rfl := Nat.eq_of_beq_eq_true hb
    obtain ⟨q, hq, hg⟩ := gc_bind hg
    obtain rfl := Option.some.inj hg
    exact gc_metP (maxL := 1) (lf := true) hl gc_pnX11 rfl gb_oX11 gc_rk_X11_taughtShare gb_nX11 hM gc_ck_X11_taughtShare (t_X11_taughtShare σ _ hq) gd_hoD rfl (fun v hv => by cases hv; rfl) (Nat.le_of_ble_eq_true rfl) rfl
  · cases hg
theorem gc_rk_X11_setRoom : cl_X11_setRoom.all (gb_rk gb_flX11 gb_slX11 gb_nlX11 gb_llX11 gb_tlX11 cX11_setRoom) = true := by decide +kernel
theorem gc_ck_X11_setRoom : cl_X11_setRoom.all (gc_ck gb_lkX11 gb_lnX11 [1, 77, 106, 405, 406, 413] 4) = true := by decide +kernel
theorem gm_414 (hl : l.stackTraces = false) : gc_MM l D cA ad A adV 414 := by
  refine ⟨gb_T414, fun h => absurd h (by decide +kernel), fun as σ o hg => ?_⟩
  have hM : ∀ mid ∈ ([1, 77, 106, 405, 406, 413] : List Nat), gc_MM l D cA ad A adV mid := (List.forall_mem_cons.mpr ⟨gm_1 hl, List.forall_mem_cons.mpr ⟨gm_77 hl, List.forall_mem_cons.mpr ⟨gm_106 hl, List.forall_mem_cons.mpr ⟨gm_405 hl, List.forall_mem_cons.mpr ⟨gm_406 hl, List.forall_mem_cons.mpr ⟨gm_413 hl, fun _ h => nomatch h⟩⟩⟩⟩⟩⟩)
  replace hg : c_X11_setRoom as gaSH σ some = some o := hg
  unfold c_X11_setRoom at hg
  split at hg
  · skip
    rename_i r0 a b
    obtain ⟨hb, hg⟩ := gc_bif hg
    obtain rfl := Nat.eq_of_beq_eq_true hb
    obtain ⟨q, hq, hg⟩ := gc_bind hg
    obtain ⟨q, s1⟩ := q
    cases q with
    | inl x =>
      obtain rfl := Option.some.inj hg
      exact gc_metG (maxL := 4) (lf := true) hl gc_pnX11 rfl gb_oX11 gc_rk_X11_setRoom gb_nX11 hM gc_ck_X11_setRoom (t_X11_setRoom a b σ _ hq) gc_hoIXl rfl (fun v hv => by cases hv; exact Or.inl rfl) (Nat.le_of_ble_eq_true rfl) rfl
    | inr E =>
      obtain rfl := Option.some.inj hg
      exact gc_metG (maxL := 4) (lf := true) hl gc_pnX11 rfl gb_oX11 gc_rk_X11_setRoom gb_nX11 hM gc_ck_X11_setRoom (t_X11_setRoom a b σ _ hq) gc_hoIXr rfl (fun v hv => by cases hv) (Nat.le_of_ble_eq_true rfl) rfl
  · cases hg
theorem gc_rk_X11_whyNotCover : cl_X11_whyNotCover.all (gb_rk gb_flX11 gb_slX11 gb_nlX11 gb_llX11 gb_tlX11 cX11_whyNotCover) = true := by decide +kernel
theorem gc_ck_X11_whyNotCover : cl_X11_whyNotCover.all (gc_ck gb_lkX11 gb_lnX11 [120, 402, 405] 4) = true := by decide +kernel
theorem gm_416 (hl : l.stackTraces = false) : gc_MM l D cA ad A adV 416 := by
  refine ⟨gb_T416, fun h => absurd h (by decide +kernel), fun as σ o hg => ?_⟩
  have hM : ∀ mid ∈ ([120, 402, 405] : List Nat), gc_MM l D cA ad A adV mid := (List.forall_mem_cons.mpr ⟨gm_120 hl, List.forall_mem_cons.mpr ⟨gm_402 hl, List.forall_mem_cons.mpr ⟨gm_405 hl, fun _ h => nomatch h⟩⟩⟩)
  replace hg : c_X11_whyNotCover as gaSH σ some = some o := hg
  unfold c_X11_whyNotCover at hg
  split at hg
  · skip
    rename_i r0 a b
    obtain ⟨hb, hg⟩ := gc_bif hg
    obtain rfl := Nat.eq_of_beq_eq_true hb
    obtain ⟨q, hq, hg⟩ := gc_bind hg
    cases q with
    | inl x =>
      obtain rfl := Option.some.inj hg
      exact gc_metP (maxL := 3) (lf := true) hl gc_pnX11 rfl gb_oX11 gc_rk_X11_whyNotCover gb_nX11 hM gc_ck_X11_whyNotCover (t_X11_whyNotCover a b σ _ hq) gd_hoIXl rfl (fun v hv => by cases hv; exact Or.inl rfl) (Nat.le_of_ble_eq_true rfl) rfl
    | inr E =>
      obtain rfl := Option.some.inj hg
      exact gc_metP (maxL := 3) (lf := true) hl gc_pnX11 rfl gb_oX11 gc_rk_X11_whyNotCover gb_nX11 hM gc_ck_X11_whyNotCover (t_X11_whyNotCover a b σ _ hq) gd_hoIXr rfl (fun v hv => by cases hv) (Nat.le_of_ble_eq_true rfl) rfl
  · cases hg
theorem gc_rk_X11_whyNotSupervise : cl_X11_whyNotSupervise.all (gb_rk gb_flX11 gb_slX11 gb_nlX11 gb_llX11 gb_tlX11 cX11_whyNotSupervise) = true := by decide +kernel
theorem gc_ck_X11_whyNotSupervise : cl_X11_whyNotSupervise.all (gc_ck gb_lkX11 gb_lnX11 [117, 402, 405] 4) = true := by decide +kernel
theorem gm_417 (hl : l.stackTraces = false) : gc_MM l D cA ad A adV 417 := by
  refine ⟨gb_T417, fun h => absurd h (by decide +kernel), fun as σ o hg => ?_⟩
  have hM : ∀ mid ∈ ([117, 402, 405] : List Nat), gc_MM l D cA ad A adV mid := (List.forall_mem_cons.mpr ⟨gm_117 hl, List.forall_mem_cons.mpr ⟨gm_402 hl, List.forall_mem_cons.mpr ⟨gm_405 hl, fun _ h => nomatch h⟩⟩⟩)
  replace hg : c_X11_whyNotSupervise as gaSH σ some = some o := hg
  unfold c_X11_whyNotSupervise at hg
  split at hg
  · skip
    rename_i r0 a b
    obtain ⟨hb, hg⟩ := gc_bif hg
    obtain rfl := Nat.eq_of_beq_eq_true hb
    obtain ⟨q, hq, hg⟩ := gc_bind hg
    cases q with
    | inl x =>
      obtain rfl := Option.some.inj hg
      exact gc_metP (maxL := 3) (lf := true) hl gc_pnX11 rfl gb_oX11 gc_rk_X11_whyNotSupervise gb_nX11 hM gc_ck_X11_whyNotSupervise (t_X11_whyNotSupervise a b σ _ hq) gd_hoIXl rfl (fun v hv => by cases hv; exact Or.inl rfl) (Nat.le_of_ble_eq_true rfl) rfl
    | inr E =>
      obtain rfl := Option.some.inj hg
      exact gc_metP (maxL := 3) (lf := true) hl gc_pnX11 rfl gb_oX11 gc_rk_X11_whyNotSupervise gb_nX11 hM gc_ck_X11_whyNotSupervise (t_X11_whyNotSupervise a b σ _ hq) gd_hoIXr rfl (fun v hv => by cases hv) (Nat.le_of_ble_eq_true rfl) rfl
  · cases hg
theorem gc_rk_X11_candidates : cl_X11_candidates.all (gb_rk gb_flX11 gb_slX11 gb_nlX11 gb_llX11 gb_tlX11 cX11_candidates) = true := by decide +kernel
theorem gc_ck_X11_candidates : cl_X11_candidates.all (gc_ck gb_lkX11 gb_lnX11 [120, 405] 4) = true := by decide +kernel
theorem gm_421 (hl : l.stackTraces = false) : gc_MM l D cA ad A adV 421 := by
  refine ⟨gb_T421, fun h => absurd h (by decide +kernel), fun as σ o hg => ?_⟩
  have hM : ∀ mid ∈ ([120, 405] : List Nat), gc_MM l D cA ad A adV mid := (List.forall_mem_cons.mpr ⟨gm_120 hl, List.forall_mem_cons.mpr ⟨gm_405 hl, fun _ h => nomatch h⟩⟩)
  replace hg : c_X11_candidates as gaSH σ some = some o := hg
  unfold c_X11_candidates at hg
  split at hg
  · skip
    rename_i r0 a
    obtain ⟨hb, hg⟩ := gc_bif hg
    obtain rfl := Nat.eq_of_beq_eq_true hb
    obtain ⟨q, hq, hg⟩ := gc_bind hg
    cases q with
    | inl x =>
      obtain rfl := Option.some.inj hg
      exact gc_metP (maxL := 4) (lf := true) hl gc_pnX11 rfl gb_oX11 gc_rk_X11_candidates gb_nX11 hM gc_ck_X11_candidates (t_X11_candidates a σ _ hq) gd_hoIXl rfl (fun v hv => by cases hv; exact Or.inl rfl) (Nat.le_of_ble_eq_true rfl) rfl
    | inr E =>
      obtain rfl := Option.some.inj hg
      exact gc_metP (maxL := 4) (lf := true) hl gc_pnX11 rfl gb_oX11 gc_rk_X11_candidates gb_nX11 hM gc_ck_X11_candidates (t_X11_candidates a σ _ hq) gd_hoIXr rfl (fun v hv => by cases hv) (Nat.le_of_ble_eq_true rfl) rfl
  · cases hg
theorem gc_rk_X11_chain : cl_X11_chain.all (gb_rk gb_flX11 gb_slX11 gb_nlX11 gb_llX11 gb_tlX11 cX11_chain) = true := by decide +kernel
theorem gc_ck_X11_chain : cl_X11_chain.all (gc_ck gb_lkX11 gb_lnX11 [100, 405] 4) = true := by decide +kernel
theorem gm_422 (hl : l.stackTraces = false) : gc_MM l D cA ad A adV 422 := by
  refine ⟨gb_T422, fun h => absurd h (by decide +kernel), fun as σ o hg => ?_⟩
  have hM : ∀ mid ∈ ([100, 405] : List Nat), gc_MM l D cA ad A adV mid := (List.forall_mem_cons.mpr ⟨gm_100 hl, List.forall_mem_cons.mpr ⟨gm_405 hl, fun _ h => nomatch h⟩⟩)
  replace hg : c_X11_chain as gaSH σ some = some o := hg
  unfold c_X11_chain at hg
  split at hg
  · skip
    rename_i r0 a
    obtain ⟨hb, hg⟩ := gc_bif hg
    obtain rfl := Nat.eq_of_beq_eq_true hb
    obtain ⟨q, hq, hg⟩ := gc_bind hg
    obtain ⟨q, s1⟩ := q
    cases q with
    | inl x =>
      obtain rfl := Option.some.inj hg
      exact gc_metG (maxL := 2) (lf := true) hl gc_pnX11 rfl gb_oX11 gc_rk_X11_chain gb_nX11 hM gc_ck_X11_chain (t_X11_chain a σ _ hq) gc_hoIXl rfl (fun v hv => by cases hv; exact Or.inl rfl) (Nat.le_of_ble_eq_true rfl) rfl
    | inr E =>
      obtain rfl := Option.some.inj hg
      exact gc_metG (maxL := 2) (lf := true) hl gc_pnX11 rfl gb_oX11 gc_rk_X11_chain gb_nX11 hM gc_ck_X11_chain (t_X11_chain a σ _ hq) gc_hoIXr rfl (fun v hv => by cases hv) (Nat.le_of_ble_eq_true rfl) rfl
  · cases hg
theorem gc_rk_X11_chainTeacher : cl_X11_chainTeacher.all (gb_rk gb_flX11 gb_slX11 gb_nlX11 gb_llX11 gb_tlX11 cX11_chainTeacher) = true := by decide +kernel
theorem gc_ck_X11_chainTeacher : cl_X11_chainTeacher.all (gc_ck gb_lkX11 gb_lnX11 [1, 100, 405] 4) = true := by decide +kernel
theorem gm_423 (hl : l.stackTraces = false) : gc_MM l D cA ad A adV 423 := by
  refine ⟨gb_T423, fun h => absurd h (by decide +kernel), fun as σ o hg => ?_⟩
  have hM : ∀ mid ∈ ([1, 100, 405] : List Nat), gc_MM l D cA ad A adV mid := (List.forall_mem_cons.mpr ⟨gm_1 hl, List.forall_mem_cons.mpr ⟨gm_100 hl, List.forall_mem_cons.mpr ⟨gm_405 hl, fun _ h => nomatch h⟩⟩⟩)
  replace hg : c_X11_chainTeacher as gaSH σ some = some o := hg
  unfold c_X11_chainTeacher at hg
  split at hg
  · skip
    rename_i r0 a b
    obtain ⟨hb, hg⟩ := gc_bif hg
    obtain rfl := Nat.eq_of_beq_eq_true hb
    obtain ⟨q, hq, hg⟩ := gc_bind hg
    obtain ⟨q, s1⟩ := q
    cases q with
    | inl x =>
      obtain rfl := Option.some.inj hg
      exact gc_metG (maxL := 4) (lf := true) hl gc_pnX11 rfl gb_oX11 gc_rk_X11_chainTeacher gb_nX11 hM gc_ck_X11_chainTeacher (t_X11_chainTeacher a b σ _ hq) gc_hoIXl rfl (fun v hv => by cases hv; exact Or.inl rfl) (Nat.le_of_ble_eq_true rfl) rfl
    | inr E =>
      obtain rfl := Option.some.inj hg
      exact gc_metG (maxL := 4) (lf := true) hl gc_pnX11 rfl gb_oX11 gc_rk_X11_chainTeacher gb_nX11 hM gc_ck_X11_chainTeacher (t_X11_chainTeacher a b σ _ hq) gc_hoIXr rfl (fun v hv => by cases hv) (Nat.le_of_ble_eq_true rfl) rfl
  · cases hg
theorem gc_rk_X11_count : cl_X11_count.all (gb_rk gb_flX11 gb_slX11 gb_nlX11 gb_llX11 gb_tlX11 cX11_count) = true := by decide +kernel
theorem gc_ck_X11_count : cl_X11_count.all (gc_ck gb_lkX11 gb_lnX11 [187, 205, 206] 4) = true := by decide +kernel
theorem gm_427 (hl : l.stackTraces = false) : gc_MM l D cA ad A adV 427 := by
  refine ⟨gb_T427, fun h => absurd h (by decide +kernel), fun as σ o hg => ?_⟩
  have hM : ∀ mid ∈ ([187, 205, 206] : List Nat), gc_MM l D cA ad A adV mid := (List.forall_mem_cons.mpr ⟨gm_187 hl, List.forall_mem_cons.mpr ⟨gm_205 hl, List.forall_mem_cons.mpr ⟨gm_206 hl, fun _ h => nomatch h⟩⟩⟩)
  replace hg : c_X11_count as gaSH σ some = some o := hg
  unfold c_X11_count at hg
  split at hg
  · skip
    rename_i r0 a
    obtain ⟨hb, hg⟩ := gc_bif hg
    obtain rfl := Nat.eq_of_beq_eq_true hb
    obtain ⟨q, hq, hg⟩ := gc_bind hg
    cases q with
    | inl x =>
      obtain rfl := Option.some.inj hg
      exact gc_metP (maxL := 2) (lf := true) hl gc_pnX11 rfl gb_oX11 gc_rk_X11_count gb_nX11 hM gc_ck_X11_count (t_X11_count a σ _ hq) gd_hoIXl rfl (fun v hv => by cases hv; exact Or.inl rfl) (Nat.le_of_ble_eq_true rfl) rfl
    | inr E =>
      obtain rfl := Option.some.inj hg
      exact gc_metP (maxL := 2) (lf := true) hl gc_pnX11 rfl gb_oX11 gc_rk_X11_count gb_nX11 hM gc_ck_X11_count (t_X11_count a σ _ hq) gd_hoIXr rfl (fun v hv => by cases hv) (Nat.le_of_ble_eq_true rfl) rfl
  · cases hg
theorem gc_rk_X11_writeReport : cl_X11_writeReport.all (gb_rk gb_flX11 gb_slX11 gb_nlX11 gb_llX11 gb_tlX11 cX11_writeReport) = true := by decide +kernel
theorem gc_ck_X11_writeReport : cl_X11_writeReport.all (gc_ck gb_lkX11 gb_lnX11 [236, 432] 4) = true := by decide +kernel
theorem gm_442 (hl : l.stackTraces = false) : gc_MM l D cA ad A adV 442 := by
  refine ⟨gb_T442, fun h => absurd h (by decide +kernel), fun as σ o hg => ?_⟩
  have hM : ∀ mid ∈ ([236, 432] : List Nat), gc_MM l D cA ad A adV mid := (List.forall_mem_cons.mpr ⟨gm_236 hl, List.forall_mem_cons.mpr ⟨gm_432 hl, fun _ h => nomatch h⟩⟩)
  replace hg : c_X11_writeReport as gaSH σ some = some o := hg
  unfold c_X11_writeReport at hg
  split at hg
  · skip
    rename_i r0 a
    obtain ⟨hb, hg⟩ := gc_bif hg
    obtain rfl := Nat.eq_of_beq_eq_true hb
    obtain ⟨q, hq, hg⟩ := gc_bind hg
    obtain ⟨q, s1⟩ := q
    cases q with
    | inl x =>
      obtain rfl := Option.some.inj hg
      exact gc_metG (maxL := 2) (lf := true) hl gc_pnX11 rfl gb_oX11 gc_rk_X11_writeReport gb_nX11 hM gc_ck_X11_writeReport (t_X11_writeReport a σ _ hq) gc_hoIXl rfl (fun v hv => by cases hv; exact Or.inl rfl) (Nat.le_of_ble_eq_true rfl) rfl
    | inr E =>
      obtain rfl := Option.some.inj hg
      exact gc_metG (maxL := 2) (lf := true) hl gc_pnX11 rfl gb_oX11 gc_rk_X11_writeReport gb_nX11 hM gc_ck_X11_writeReport (t_X11_writeReport a σ _ hq) gc_hoIXr rfl (fun v hv => by cases hv) (Nat.le_of_ble_eq_true rfl) rfl
  · cases hg
theorem gc_rk_X10_isWord : cl_X10_isWord.all (gb_rk gb_flX10 gb_slX10 gb_nlX10 gb_llX10 gb_tlX10 cX10_isWord) = true := by decide +kernel
theorem gc_ck_X10_isWord : cl_X10_isWord.all (gc_ck gb_lkX10 gb_lnX10 [1, 4, 5] 5) = true := by decide +kernel
theorem gm_21 (hl : l.stackTraces = false) : gc_MM l D cA ad A adV 21 := by
  refine ⟨gb_T21, fun h => absurd h (by decide +kernel), fun as σ o hg => ?_⟩
  have hM : ∀ mid ∈ ([1, 4, 5] : List Nat), gc_MM l D cA ad A adV mid := (List.forall_mem_cons.mpr ⟨gm_1 hl, List.forall_mem_cons.mpr ⟨gm_4 hl, List.forall_mem_cons.mpr ⟨gm_5 hl, fun _ h => nomatch h⟩⟩⟩)
  replace hg : c_X10_isWord as gaSH σ some = some o := hg
  unfold c_X10_isWord at hg
  split at hg
  · skip
    rename_i r0 a
    obtain ⟨hb, hg⟩ := gc_bif hg
    obtain rfl := Nat.eq_of_beq_eq_true hb
    obtain ⟨q, hq, hg⟩ := gc_bind hg
    obtain rfl := Option.some.inj hg
    exact gc_metP (maxL := 3) (lf := true) hl gc_pnX10 rfl gb_oX10 gc_rk_X10_isWord gb_nX10 hM gc_ck_X10_isWord (t_X10_isWord a σ _ hq) gd_hoI rfl (fun v hv => by cases hv; exact Or.inr ⟨rfl, z_X10_isWord a σ _ hq⟩) (Nat.le_of_ble_eq_true rfl) rfl
  · cases hg
theorem gc_rk_X12_isWord : cl_X12_isWord.all (gb_rk gb_flX12 gb_slX12 gb_nlX12 gb_llX12 gb_tlX12 cX12_isWord) = true := by decide +kernel
theorem gc_ck_X12_isWord : cl_X12_isWord.all (gc_ck gb_lkX12 gb_lnX12 [4, 5, 55] 5) = true := by decide +kernel
theorem gm_60 (hl : l.stackTraces = false) : gc_MM l D cA ad A adV 60 := by
  refine ⟨gb_T60, fun h => absurd h (by decide +kernel), fun as σ o hg => ?_⟩
  have hM : ∀ mid ∈ ([4, 5, 55] : List Nat), gc_MM l D cA ad A adV mid := (List.forall_mem_cons.mpr ⟨gm_4 hl, List.forall_mem_cons.mpr ⟨gm_5 hl, List.forall_mem_cons.mpr ⟨gm_55 hl, fun _ h => nomatch h⟩⟩⟩)
  replace hg : c_X12_isWord as gaSH σ some = some o := hg
  unfold c_X12_isWord at hg
  split at hg
  · skip
    rename_i r0 a
    obtain ⟨hb, hg⟩ := gc_bif hg
    obtain rfl := Nat.eq_of_beq_eq_true hb
    obtain ⟨q, hq, hg⟩ := gc_bind hg
    obtain rfl := Option.some.inj hg
    exact gc_metP (maxL := 4) (lf := true) hl gc_pnX12 rfl gb_oX12 gc_rk_X12_isWord gb_nX12 hM gc_ck_X12_isWord (t_X12_isWord a σ _ hq) gd_hoI rfl (fun v hv => by cases hv; exact Or.inr ⟨rfl, z_X12_isWord a σ _ hq⟩) (Nat.le_of_ble_eq_true rfl) rfl
  · cases hg
theorem gc_rk_X2_moveToSlot : cl_X2_moveToSlot.all (gb_rk gb_flX2 gb_slX2 gb_nlX2 gb_llX2 gb_tlX2 cX2_moveToSlot) = true := by decide +kernel
theorem gc_ck_X2_moveToSlot : cl_X2_moveToSlot.all (gc_ck gb_lkX2 gb_lnX2 [2, 110] 5) = true := by decide +kernel
theorem gm_111 (hl : l.stackTraces = false) : gc_MM l D cA ad A adV 111 := by
  refine ⟨gb_T111, fun h => absurd h (by decide +kernel), fun as σ o hg => ?_⟩
  have hM : ∀ mid ∈ ([2, 110] : List Nat), gc_MM l D cA ad A adV mid := (List.forall_mem_cons.mpr ⟨gm_2 hl, List.forall_mem_cons.mpr ⟨gm_110 hl, fun _ h => nomatch h⟩⟩)
  replace hg : c_X2_moveToSlot as gaSH σ some = some o := hg
  unfold c_X2_moveToSlot at hg
  split at hg
  · skip
    rename_i r0 a b
    obtain ⟨hb, hg⟩ := gc_bif hg
    obtain rfl := Nat.eq_of_beq_eq_true hb
    obtain ⟨q, hq, hg⟩ := gc_bind hg
    obtain rfl := Option.some.inj hg
    exact gc_metG (maxL := 3) (lf := true) hl gc_pnX2 rfl gb_oX2 gc_rk_X2_moveToSlot gb_nX2 hM gc_ck_X2_moveToSlot (t_X2_moveToSlot a b σ _ hq) gc_hoI rfl (fun v hv => by cases hv; exact Or.inr ⟨rfl, z_X2_moveToSlot a b σ _ hq⟩) (Nat.le_of_ble_eq_true rfl) rfl
  · cases hg
theorem gc_rk_X2_swapSlots : cl_X2_swapSlots.all (gb_rk gb_flX2 gb_slX2 gb_nlX2 gb_llX2 gb_tlX2 cX2_swapSlots) = true := by decide +kernel
theorem gc_ck_X2_swapSlots : cl_X2_swapSlots.all (gc_ck gb_lkX2 gb_lnX2 [1, 2, 113] 5) = true := by decide +kernel
theorem gm_114 (hl : l.stackTraces = false) : gc_MM l D cA ad A adV 114 := by
  refine ⟨gb_T114, fun h => absurd h (by decide +kernel), fun as σ o hg => ?_⟩
  have hM : ∀ mid ∈ ([1, 2, 113] : List Nat), gc_MM l D cA ad A adV mid := (List.forall_mem_cons.mpr ⟨gm_1 hl, List.forall_mem_cons.mpr ⟨gm_2 hl, List.forall_mem_cons.mpr ⟨gm_113 hl, fun _ h => nomatch h⟩⟩⟩)
  replace hg : c_X2_swapSlots as gaSH σ some = some o := hg
  unfold c_X2_swapSlots at hg
  split at hg
  · skip
    rename_i r0 a b
    obtain ⟨hb, hg⟩ := gc_bif hg
    obtain rfl := Nat.eq_of_beq_eq_true hb
    obtain ⟨q, hq, hg⟩ := gc_bind hg
    obtain rfl := Option.some.inj hg
    exact gc_metG (maxL := 4) (lf := true) hl gc_pnX2 rfl gb_oX2 gc_rk_X2_swapSlots gb_nX2 hM gc_ck_X2_swapSlots (t_X2_swapSlots a b σ _ hq) gc_hoI rfl (fun v hv => by cases hv; exact Or.inr ⟨rfl, z_X2_swapSlots a b σ _ hq⟩) (Nat.le_of_ble_eq_true rfl) rfl
  · cases hg
theorem gc_rk_X2_repairOpenLessons : cl_X2_repairOpenLessons.all (gb_rk gb_flX2 gb_slX2 gb_nlX2 gb_llX2 gb_tlX2 cX2_repairOpenLessons) = true := by decide +kernel
theorem gc_ck_X2_repairOpenLessons : cl_X2_repairOpenLessons.all (gc_ck gb_lkX2 gb_lnX2 [103] 5) = true := by decide +kernel
theorem gm_122 (hl : l.stackTraces = false) : gc_MM l D cA ad A adV 122 := by
  refine ⟨gb_T122, fun h => absurd h (by decide +kernel), fun as σ o hg => ?_⟩
  have hM : ∀ mid ∈ ([103] : List Nat), gc_MM l D cA ad A adV mid := (List.forall_mem_cons.mpr ⟨gm_103 hl, fun _ h => nomatch h⟩)
  replace hg : c_X2_repairOpenLessons as gaSH σ some = some o := hg
  unfold c_X2_repairOpenLessons at hg
  split at hg
  · skip
    rename_i r0
    obtain ⟨hb, hg⟩ := gc_bif hg
    obtain rfl := Nat.eq_of_beq_eq_true hb
    obtain ⟨q, hq, hg⟩ := gc_bind hg
    obtain rfl := Option.some.inj hg
    exact gc_metG (maxL := 3) (lf := true) hl gc_pnX2 rfl gb_oX2 gc_rk_X2_repairOpenLessons gb_nX2 hM gc_ck_X2_repairOpenLessons (t_X2_repairOpenLessons σ _ hq) gc_hoI rfl (fun v hv => by cases hv; exact Or.inl rfl) (Nat.le_of_ble_eq_true rfl) rfl
  · cases hg
theorem gc_rk_X12_goes2 : cl_X12_goes2.all (gb_rk gb_flX12 gb_slX12 gb_nlX12 gb_llX12 gb_tlX12 cX12_goes) = true := by decide +kernel
theorem gc_ck_X12_goes2 : cl_X12_goes2.all (gc_ck gb_lkX12 gb_lnX12 [137, 139, 143, 144, 145, 148, 149] 5) = true := by decide +kernel
theorem gm_150 (hl : l.stackTraces = false) : gc_MM l D cA ad A adV 150 := by
  refine ⟨gb_T150, fun h => absurd h (by decide +kernel), fun as σ o hg => ?_⟩
  have hM : ∀ mid ∈ ([137, 139, 143, 144, 145, 148, 149] : List Nat), gc_MM l D cA ad A adV mid := (List.forall_mem_cons.mpr ⟨gm_137 hl, List.forall_mem_cons.mpr ⟨gm_139 hl, List.forall_mem_cons.mpr ⟨gm_143 hl, List.forall_mem_cons.mpr ⟨gm_144 hl, List.forall_mem_cons.mpr ⟨gm_145 hl, List.forall_mem_cons.mpr ⟨gm_148 hl, List.forall_mem_cons.mpr ⟨gm_149 hl, fun _ h => nomatch h⟩⟩⟩⟩⟩⟩⟩)
  replace hg : c_X12_goes2 as gaSH σ some = some o := hg
  unfold c_X12_goes2 at hg
  split at hg
  · skip
    rename_i r0 a b c d
    obtain ⟨hb, hg⟩ := gc_bif hg
    obtain rfl := Nat.eq_of_beq_eq_true hb
    obtain ⟨q, hq, hg⟩ := gc_bind hg
    obtain rfl := Option.some.inj hg
    exact gc_metG (maxL := 9) (lf := true) hl gc_pnX12 rfl gb_oX12 gc_rk_X12_goes2 gb_nX12 hM gc_ck_X12_goes2 (t_X12_goes2 a b c d σ _ hq) gc_hoV rfl (fun v hv => by cases hv; rfl) (Nat.le_of_ble_eq_true rfl) rfl
  · cases hg
theorem gc_rk_X12_cover : cl_X12_cover.all (gb_rk gb_flX12 gb_slX12 gb_nlX12 gb_llX12 gb_tlX12 cX12_cover) = true := by decide +kernel
theorem gc_ck_X12_cover : cl_X12_cover.all (gc_ck gb_lkX12 gb_lnX12 [129, 148, 154, 157, 164, 173, 174] 5) = true := by decide +kernel
theorem gm_176 (hl : l.stackTraces = false) : gc_MM l D cA ad A adV 176 := by
  refine ⟨gb_T176, fun h => absurd h (by decide +kernel), fun as σ o hg => ?_⟩
  have hM : ∀ mid ∈ ([129, 148, 154, 157, 164, 173, 174] : List Nat), gc_MM l D cA ad A adV mid := (List.forall_mem_cons.mpr ⟨gm_129 hl, List.forall_mem_cons.mpr ⟨gm_148 hl, List.forall_mem_cons.mpr ⟨gm_154 hl, List.forall_mem_cons.mpr ⟨gm_157 hl, List.forall_mem_cons.mpr ⟨gm_164 hl, List.forall_mem_cons.mpr ⟨gm_173 hl, List.forall_mem_cons.mpr ⟨gm_174 hl, fun _ h => nomatch h⟩⟩⟩⟩⟩⟩⟩)
  replace hg : c_X12_cover as gaSH σ some = some o := hg
  unfold c_X12_cover at hg
  split at hg
  · skip
    rename_i r0 a b
    obtain ⟨hb, hg⟩ := gc_bif hg
    obtain rfl := Nat.eq_of_beq_eq_true hb
    obtain ⟨q, hq, hg⟩ := gc_bind hg
    obtain rfl := Option.some.inj hg
    exact gc_metG (maxL := 3) (lf := true) hl gc_pnX12 rfl gb_oX12 gc_rk_X12_cover gb_nX12 hM gc_ck_X12_cover (t_X12_cover a b σ _ hq) gc_hoI rfl (fun v hv => by cases hv; exact Or.inl rfl) (Nat.le_of_ble_eq_true rfl) rfl
  · cases hg
theorem gc_rk_X12_whyNotCover : cl_X12_whyNotCover.all (gb_rk gb_flX12 gb_slX12 gb_nlX12 gb_llX12 gb_tlX12 cX12_whyNotCover) = true := by decide +kernel
theorem gc_ck_X12_whyNotCover : cl_X12_whyNotCover.all (gc_ck gb_lkX12 gb_lnX12 [129, 154, 157, 173] 5) = true := by decide +kernel
theorem gm_192 (hl : l.stackTraces = false) : gc_MM l D cA ad A adV 192 := by
  refine ⟨gb_T192, fun h => absurd h (by decide +kernel), fun as σ o hg => ?_⟩
  have hM : ∀ mid ∈ ([129, 154, 157, 173] : List Nat), gc_MM l D cA ad A adV mid := (List.forall_mem_cons.mpr ⟨gm_129 hl, List.forall_mem_cons.mpr ⟨gm_154 hl, List.forall_mem_cons.mpr ⟨gm_157 hl, List.forall_mem_cons.mpr ⟨gm_173 hl, fun _ h => nomatch h⟩⟩⟩⟩)
  replace hg : c_X12_whyNotCover as gaSH σ some = some o := hg
  unfold c_X12_whyNotCover at hg
  split at hg
  · skip
    rename_i r0 a b
    obtain ⟨hb, hg⟩ := gc_bif hg
    obtain rfl := Nat.eq_of_beq_eq_true hb
    obtain ⟨q, hq, hg⟩ := gc_bind hg
    obtain rfl := Option.some.inj hg
    exact gc_metG (maxL := 3) (lf := true) hl gc_pnX12 rfl gb_oX12 gc_rk_X12_whyNotCover gb_nX12 hM gc_ck_X12_whyNotCover (t_X12_whyNotCover a b σ _ hq) gc_hoI rfl (fun v hv => by cases hv; exact Or.inl rfl) (Nat.le_of_ble_eq_true rfl) rfl
  · cases hg
theorem gc_rk_X12_candidates : cl_X12_candidates.all (gb_rk gb_flX12 gb_slX12 gb_nlX12 gb_llX12 gb_tlX12 cX12_candidates) = true := by decide +kernel
theorem gc_ck_X12_candidates : cl_X12_candidates.all (gc_ck gb_lkX12 gb_lnX12 [129, 157, 173] 5) = true := by decide +kernel
theorem gm_197 (hl : l.stackTraces = false) : gc_MM l D cA ad A adV 197 := by
  refine ⟨gb_T197, fun h => absurd h (by decide +kernel), fun as σ o hg => ?_⟩
  have hM : ∀ mid ∈ ([129, 157, 173] : List Nat), gc_MM l D cA ad A adV mid := (List.forall_mem_cons.mpr ⟨gm_129 hl, List.forall_mem_cons.mpr ⟨gm_157 hl, List.forall_mem_cons.mpr ⟨gm_173 hl, fun _ h => nomatch h⟩⟩⟩)
  replace hg : c_X12_candidates as gaSH σ some = some o := hg
  unfold c_X12_candidates at hg
  split at hg
  · skip
    rename_i r0 a
    obtain ⟨hb, hg⟩ := gc_bif hg
    obtain rfl := Nat.eq_of_beq_eq_true hb
    obtain ⟨q, hq, hg⟩ := gc_bind hg
    obtain rfl := Option.some.inj hg
    exact gc_metG (maxL := 4) (lf := true) hl gc_pnX12 rfl gb_oX12 gc_rk_X12_candidates gb_nX12 hM gc_ck_X12_candidates (t_X12_candidates a σ _ hq) gc_hoI rfl (fun v hv => by cases hv; exact Or.inl rfl) (Nat.le_of_ble_eq_true rfl) rfl
  · cases hg
theorem gc_rk_X11_cover : cl_X11_cover.all (gb_rk gb_flX11 gb_slX11 gb_nlX11 gb_llX11 gb_tlX11 cX11_cover) = true := by decide +kernel
theorem gc_ck_X11_cover : cl_X11_cover.all (gc_ck gb_lkX11 gb_lnX11 [77, 94, 121, 402, 405, 406] 5) = true := by decide +kernel
theorem gm_407 (hl : l.stackTraces = false) : gc_MM l D cA ad A adV 407 := by
  refine ⟨gb_T407, fun h => absurd h (by decide +kernel), fun as σ o hg => ?_⟩
  have hM : ∀ mid ∈ ([77, 94, 121, 402, 405, 406] : List Nat), gc_MM l D cA ad A adV mid := (List.forall_mem_cons.mpr ⟨gm_77 hl, List.forall_mem_cons.mpr ⟨gm_94 hl, List.forall_mem_cons.mpr ⟨gm_121 hl, List.forall_mem_cons.mpr ⟨gm_402 hl, List.forall_mem_cons.mpr ⟨gm_405 hl, List.forall_mem_cons.mpr ⟨gm_406 hl, fun _ h => nomatch h⟩⟩⟩⟩⟩⟩)
  replace hg : c_X11_cover as gaSH σ some = some o := hg
  unfold c_X11_cover at hg
  split at hg
  · skip
    rename_i r0 a b
    obtain ⟨hb, hg⟩ := gc_bif hg
    obtain rfl := Nat.eq_of_beq_eq_true hb
    obtain ⟨q, hq, hg⟩ := gc_bind hg
    obtain ⟨q, s1⟩ := q
    cases q with
    | inl x =>
      obtain rfl := Option.some.inj hg
      exact gc_metG (maxL := 3) (lf := true) hl gc_pnX11 rfl gb_oX11 gc_rk_X11_cover gb_nX11 hM gc_ck_X11_cover (t_X11_cover a b σ _ hq) gc_hoIXl rfl (fun v hv => by cases hv; exact Or.inl rfl) (Nat.le_of_ble_eq_true rfl) rfl
    | inr E =>
      obtain rfl := Option.some.inj hg
      exact gc_metG (maxL := 3) (lf := true) hl gc_pnX11 rfl gb_oX11 gc_rk_X11_cover gb_nX11 hM gc_ck_X11_cover (t_X11_cover a b σ _ hq) gc_hoIXr rfl (fun v hv => by cases hv) (Nat.le_of_ble_eq_true rfl) rfl
  · cases hg
theorem gc_rk_X11_supervise : cl_X11_supervise.all (gb_rk gb_flX11 gb_slX11 gb_nlX11 gb_llX11 gb_tlX11 cX11_supervise) = true := by decide +kernel
theorem gc_ck_X11_supervise : cl_X11_supervise.all (gc_ck gb_lkX11 gb_lnX11 [77, 119, 177, 402, 405, 406] 5) = true := by decide +kernel
theorem gm_408 (hl : l.stackTraces = false) : gc_MM l D cA ad A adV 408 := by
  refine ⟨gb_T408, fun h => absurd h (by decide +kernel), fun as σ o hg => ?_⟩
  have hM : ∀ mid ∈ ([77, 119, 177, 402, 405, 406] : List Nat), gc_MM l D cA ad A adV mid := (List.forall_mem_cons.mpr ⟨gm_77 hl, List.forall_mem_cons.mpr ⟨gm_119 hl, List.forall_mem_cons.mpr ⟨gm_177 hl, List.forall_mem_cons.mpr ⟨gm_402 hl, List.forall_mem_cons.mpr ⟨gm_405 hl, List.forall_mem_cons.mpr ⟨gm_406 hl, fun _ h => nomatch h⟩⟩⟩⟩⟩⟩)
  replace hg : c_X11_supervise as gaSH σ some = some o := hg
  unfold c_X11_supervise at hg
  split at hg
  · skip
    rename_i r0 a b
    obtain ⟨hb, hg⟩ := gc_bif hg
    obtain rfl := Nat.eq_of_beq_eq_true hb
    obtain ⟨q, hq, hg⟩ := gc_bind hg
    obtain ⟨q, s1⟩ := q
    cases q with
    | inl x =>
      obtain rfl := Option.some.inj hg
      exact gc_metG (maxL := 3) (lf := true) hl gc_pnX11 rfl gb_oX11 gc_rk_X11_supervise gb_nX11 hM gc_ck_X11_supervise (t_X11_supervise a b σ _ hq) gc_hoIXl rfl (fun v hv => by cases hv; exact Or.inl rfl) (Nat.le_of_ble_eq_true rfl) rfl
    | inr E =>
      obtain rfl := Option.some.inj hg
      exact gc_metG (maxL := 3) (lf := true) hl gc_pnX11 rfl gb_oX11 gc_rk_X11_supervise gb_nX11 hM gc_ck_X11_supervise (t_X11_supervise a b σ _ hq) gc_hoIXr rfl (fun v hv => by cases hv) (Nat.le_of_ble_eq_true rfl) rfl
  · cases hg
theorem gc_rk_X11_repair : cl_X11_repair.all (gb_rk gb_flX11 gb_slX11 gb_nlX11 gb_llX11 gb_tlX11 cX11_repair) = true := by decide +kernel
theorem gc_ck_X11_repair : cl_X11_repair.all (gc_ck gb_lkX11 gb_lnX11 [77, 103, 405, 406] 5) = true := by decide +kernel
theorem gm_409 (hl : l.stackTraces = false) : gc_MM l D cA ad A adV 409 := by
  refine ⟨gb_T409, fun h => absurd h (by decide +kernel), fun as σ o hg => ?_⟩
  have hM : ∀ mid ∈ ([77, 103, 405, 406] : List Nat), gc_MM l D cA ad A adV mid := (List.forall_mem_cons.mpr ⟨gm_77 hl, List.forall_mem_cons.mpr ⟨gm_103 hl, List.forall_mem_cons.mpr ⟨gm_405 hl, List.forall_mem_cons.mpr ⟨gm_406 hl, fun _ h => nomatch h⟩⟩⟩⟩)
  replace hg : c_X11_repair as gaSH σ some = some o := hg
  unfold c_X11_repair at hg
  split at hg
  · skip
    rename_i r0 a
    obtain ⟨hb, hg⟩ := gc_bif hg
    obtain rfl := Nat.eq_of_beq_eq_true hb
    obtain ⟨q, hq, hg⟩ := gc_bind hg
    obtain ⟨q, s1⟩ := q
    cases q with
    | inl x =>
      obtain rfl := Option.some.inj hg
      exact gc_metG (maxL := 2) (lf := true) hl gc_pnX11 rfl gb_oX11 gc_rk_X11_repair gb_nX11 hM gc_ck_X11_repair (t_X11_repair a σ _ hq) gc_hoIXl rfl (fun v hv => by cases hv; exact Or.inl rfl) (Nat.le_of_ble_eq_true rfl) rfl
    | inr E =>
      obtain rfl := Option.some.inj hg
      exact gc_metG (maxL := 2) (lf := true) hl gc_pnX11 rfl gb_oX11 gc_rk_X11_repair gb_nX11 hM gc_ck_X11_repair (t_X11_repair a σ _ hq) gc_hoIXr rfl (fun v hv => by cases hv) (Nat.le_of_ble_eq_true rfl) rfl
  · cases hg
theorem gc_rk_X11_whyNotExchange : cl_X11_whyNotExchange.all (gb_rk gb_flX11 gb_slX11 gb_nlX11 gb_llX11 gb_tlX11 cX11_whyNotExchange) = true := by decide +kernel
theorem gc_ck_X11_whyNotExchange : cl_X11_whyNotExchange.all (gc_ck gb_lkX11 gb_lnX11 [113, 405] 5) = true := by decide +kernel
theorem gm_418 (hl : l.stackTraces = false) : gc_MM l D cA ad A adV 418 := by
  refine ⟨gb_T418, fun h => absurd h (by decide +kernel), fun as σ o hg => ?_⟩
  have hM : ∀ mid ∈ ([113, 405] : List Nat), gc_MM l D cA ad A adV mid := (List.forall_mem_cons.mpr ⟨gm_113 hl, List.forall_mem_cons.mpr ⟨gm_405 hl, fun _ h => nomatch h⟩⟩)
  replace hg : c_X11_whyNotExchange as gaSH σ some = some o := hg
  unfold c_X11_whyNotExchange at hg
  split at hg
  · skip
    rename_i r0 a b
    obtain ⟨hb, hg⟩ := gc_bif hg
    obtain rfl := Nat.eq_of_beq_eq_true hb
    obtain ⟨q, hq, hg⟩ := gc_bind hg
    cases q with
    | inl x =>
      obtain rfl := Option.some.inj hg
      exact gc_metP (maxL := 3) (lf := true) hl gc_pnX11 rfl gb_oX11 gc_rk_X11_whyNotExchange gb_nX11 hM gc_ck_X11_whyNotExchange (t_X11_whyNotExchange a b σ _ hq) gd_hoIXl rfl (fun v hv => by cases hv; exact Or.inl rfl) (Nat.le_of_ble_eq_true rfl) rfl
    | inr E =>
      obtain rfl := Option.some.inj hg
      exact gc_metP (maxL := 3) (lf := true) hl gc_pnX11 rfl gb_oX11 gc_rk_X11_whyNotExchange gb_nX11 hM gc_ck_X11_whyNotExchange (t_X11_whyNotExchange a b σ _ hq) gd_hoIXr rfl (fun v hv => by cases hv) (Nat.le_of_ble_eq_true rfl) rfl
  · cases hg
theorem gc_rk_X11_whyNotMove : cl_X11_whyNotMove.all (gb_rk gb_flX11 gb_slX11 gb_nlX11 gb_llX11 gb_tlX11 cX11_whyNotMove) = true := by decide +kernel
theorem gc_ck_X11_whyNotMove : cl_X11_whyNotMove.all (gc_ck gb_lkX11 gb_lnX11 [110, 405, 411] 5) = true := by decide +kernel
theorem gm_419 (hl : l.stackTraces = false) : gc_MM l D cA ad A adV 419 := by
  refine ⟨gb_T419, fun h => absurd h (by decide +kernel), fun as σ o hg => ?_⟩
  have hM : ∀ mid ∈ ([110, 405, 411] : List Nat), gc_MM l D cA ad A adV mid := (List.forall_mem_cons.mpr ⟨gm_110 hl, List.forall_mem_cons.mpr ⟨gm_405 hl, List.forall_mem_cons.mpr ⟨gm_411 hl, fun _ h => nomatch h⟩⟩⟩)
  replace hg : c_X11_whyNotMove as gaSH σ some = some o := hg
  unfold c_X11_whyNotMove at hg
  split at hg
  · skip
    rename_i r0 a b
    obtain ⟨hb, hg⟩ := gc_bif hg
    obtain rfl := Nat.eq_of_beq_eq_true hb
    obtain ⟨q, hq, hg⟩ := gc_bind hg
    cases q with
    | inl x =>
      obtain rfl := Option.some.inj hg
      exact gc_metP (maxL := 3) (lf := true) hl gc_pnX11 rfl gb_oX11 gc_rk_X11_whyNotMove gb_nX11 hM gc_ck_X11_whyNotMove (t_X11_whyNotMove a b σ _ hq) gd_hoIXl rfl (fun v hv => by cases hv; exact Or.inl rfl) (Nat.le_of_ble_eq_true rfl) rfl
    | inr E =>
      obtain rfl := Option.some.inj hg
      exact gc_metP (maxL := 3) (lf := true) hl gc_pnX11 rfl gb_oX11 gc_rk_X11_whyNotMove gb_nX11 hM gc_ck_X11_whyNotMove (t_X11_whyNotMove a b σ _ hq) gd_hoIXr rfl (fun v hv => by cases hv) (Nat.le_of_ble_eq_true rfl) rfl
  · cases hg
theorem gc_rk_X11_partners : cl_X11_partners.all (gb_rk gb_flX11 gb_slX11 gb_nlX11 gb_llX11 gb_tlX11 cX11_partners) = true := by decide +kernel
theorem gc_ck_X11_partners : cl_X11_partners.all (gc_ck gb_lkX11 gb_lnX11 [113, 405] 5) = true := by decide +kernel
theorem gm_424 (hl : l.stackTraces = false) : gc_MM l D cA ad A adV 424 := by
  refine ⟨gb_T424, fun h => absurd h (by decide +kernel), fun as σ o hg => ?_⟩
  have hM : ∀ mid ∈ ([113, 405] : List Nat), gc_MM l D cA ad A adV mid := (List.forall_mem_cons.mpr ⟨gm_113 hl, List.forall_mem_cons.mpr ⟨gm_405 hl, fun _ h => nomatch h⟩⟩)
  replace hg : c_X11_partners as gaSH σ some = some o := hg
  unfold c_X11_partners at hg
  split at hg
  · skip
    rename_i r0 a
    obtain ⟨hb, hg⟩ := gc_bif hg
    obtain rfl := Nat.eq_of_beq_eq_true hb
    obtain ⟨q, hq, hg⟩ := gc_bind hg
    cases q with
    | inl x =>
      obtain rfl := Option.some.inj hg
      exact gc_metP (maxL := 4) (lf := true) hl gc_pnX11 rfl gb_oX11 gc_rk_X11_partners gb_nX11 hM gc_ck_X11_partners (t_X11_partners a σ _ hq) gd_hoIXl rfl (fun v hv => by cases hv; exact Or.inl rfl) (Nat.le_of_ble_eq_true rfl) rfl
    | inr E =>
      obtain rfl := Option.some.inj hg
      exact gc_metP (maxL := 4) (lf := true) hl gc_pnX11 rfl gb_oX11 gc_rk_X11_partners gb_nX11 hM gc_ck_X11_partners (t_X11_partners a σ _ hq) gd_hoIXr rfl (fun v hv => by cases hv) (Nat.le_of_ble_eq_true rfl) rfl
  · cases hg
theorem gc_rk_X11_firstPartner : cl_X11_firstPartner.all (gb_rk gb_flX11 gb_slX11 gb_nlX11 gb_llX11 gb_tlX11 cX11_firstPartner) = true := by decide +kernel
theorem gc_ck_X11_firstPartner : cl_X11_firstPartner.all (gc_ck gb_lkX11 gb_lnX11 [113, 405] 5) = true := by decide +kernel
theorem gm_425 (hl : l.stackTraces = false) : gc_MM l D cA ad A adV 425 := by
  refine ⟨gb_T425, fun h => absurd h (by decide +kernel), fun as σ o hg => ?_⟩
  have hM : ∀ mid ∈ ([113, 405] : List Nat), gc_MM l D cA ad A adV mid := (List.forall_mem_cons.mpr ⟨gm_113 hl, List.forall_mem_cons.mpr ⟨gm_405 hl, fun _ h => nomatch h⟩⟩)
  replace hg : c_X11_firstPartner as gaSH σ some = some o := hg
  unfold c_X11_firstPartner at hg
  split at hg
  · skip
    rename_i r0 a
    obtain ⟨hb, hg⟩ := gc_bif hg
    obtain rfl := Nat.eq_of_beq_eq_true hb
    obtain ⟨q, hq, hg⟩ := gc_bind hg
    cases q with
    | inl x =>
      obtain rfl := Option.some.inj hg
      exact gc_metP (maxL := 3) (lf := true) hl gc_pnX11 rfl gb_oX11 gc_rk_X11_firstPartner gb_nX11 hM gc_ck_X11_firstPartner (t_X11_firstPartner a σ _ hq) gd_hoIXl rfl (fun v hv => by cases hv; exact Or.inl rfl) (Nat.le_of_ble_eq_true rfl) rfl
    | inr E =>
      obtain rfl := Option.some.inj hg
      exact gc_metP (maxL := 3) (lf := true) hl gc_pnX11 rfl gb_oX11 gc_rk_X11_firstPartner gb_nX11 hM gc_ck_X11_firstPartner (t_X11_firstPartner a σ _ hq) gd_hoIXr rfl (fun v hv => by cases hv) (Nat.le_of_ble_eq_true rfl) rfl
  · cases hg
theorem gc_rk_X11_slotsFor : cl_X11_slotsFor.all (gb_rk gb_flX11 gb_slX11 gb_nlX11 gb_llX11 gb_tlX11 cX11_slotsFor) = true := by decide +kernel
theorem gc_ck_X11_slotsFor : cl_X11_slotsFor.all (gc_ck gb_lkX11 gb_lnX11 [38, 110, 405] 5) = true := by decide +kernel
theorem gm_426 (hl : l.stackTraces = false) : gc_MM l D cA ad A adV 426 := by
  refine ⟨gb_T426, fun h => absurd h (by decide +kernel), fun as σ o hg => ?_⟩
  have hM : ∀ mid ∈ ([38, 110, 405] : List Nat), gc_MM l D cA ad A adV mid := (List.forall_mem_cons.mpr ⟨gm_38 hl, List.forall_mem_cons.mpr ⟨gm_110 hl, List.forall_mem_cons.mpr ⟨gm_405 hl, fun _ h => nomatch h⟩⟩⟩)
  replace hg : c_X11_slotsFor as gaSH σ some = some o := hg
  unfold c_X11_slotsFor at hg
  split at hg
  · skip
    rename_i r0 a
    obtain ⟨hb, hg⟩ := gc_bif hg
    obtain rfl := Nat.eq_of_beq_eq_true hb
    obtain ⟨q, hq, hg⟩ := gc_bind hg
    cases q with
    | inl x =>
      obtain rfl := Option.some.inj hg
      exact gc_metP (maxL := 4) (lf := true) hl gc_pnX11 rfl gb_oX11 gc_rk_X11_slotsFor gb_nX11 hM gc_ck_X11_slotsFor (t_X11_slotsFor a σ _ hq) gd_hoIXl rfl (fun v hv => by cases hv; exact Or.inl rfl) (Nat.le_of_ble_eq_true rfl) rfl
    | inr E =>
      obtain rfl := Option.some.inj hg
      exact gc_metP (maxL := 4) (lf := true) hl gc_pnX11 rfl gb_oX11 gc_rk_X11_slotsFor gb_nX11 hM gc_ck_X11_slotsFor (t_X11_slotsFor a σ _ hq) gd_hoIXr rfl (fun v hv => by cases hv) (Nat.le_of_ble_eq_true rfl) rfl
  · cases hg
theorem gc_rk_X8_takeWord : cl_X8_takeWord.all (gb_rk gb_flX8 gb_slX8 gb_nlX8 gb_llX8 gb_tlX8 cX8_takeWord) = true := by decide +kernel
theorem gc_ck_X8_takeWord : cl_X8_takeWord.all (gc_ck gb_lkX8 gb_lnX8 [19, 21, 23] 6) = true := by decide +kernel
theorem gm_24 (hl : l.stackTraces = false) : gc_MM l D cA ad A adV 24 := by
  refine ⟨gb_T24, fun h => absurd h (by decide +kernel), fun as σ o hg => ?_⟩
  have hM : ∀ mid ∈ ([19, 21, 23] : List Nat), gc_MM l D cA ad A adV mid := (List.forall_mem_cons.mpr ⟨gm_19 hl, List.forall_mem_cons.mpr ⟨gm_21 hl, List.forall_mem_cons.mpr ⟨gm_23 hl, fun _ h => nomatch h⟩⟩⟩)
  replace hg : c_X8_takeWord as gaSH σ some = some o := hg
  unfold c_X8_takeWord at hg
  split at hg
  · skip
    rename_i r0 a
    obtain ⟨hb, hg⟩ := gc_bif hg
    obtain rfl := Nat.eq_of_beq_eq_true hb
    obtain ⟨q, hq, hg⟩ := gc_bind hg
    obtain rfl := Option.some.inj hg
    exact gc_metG (maxL := 2) (lf := true) hl gc_pnX8 rfl gb_oX8 gc_rk_X8_takeWord gb_nX8 hM gc_ck_X8_takeWord (t_X8_takeWord a σ _ hq) gc_hoI rfl (fun v hv => by cases hv; exact Or.inr ⟨rfl, z_X8_takeWord a σ _ hq⟩) (Nat.le_of_ble_eq_true rfl) rfl
  · cases hg
theorem gc_rk_X8_readLessons : cl_X8_readLessons.all (gb_rk gb_flX8 gb_slX8 gb_nlX8 gb_llX8 gb_tlX8 cX8_readLessons) = true := by decide +kernel
theorem gc_ck_X8_readLessons : cl_X8_readLessons.all (gc_ck gb_lkX8 gb_lnX8 [19, 21, 23, 44] 6) = true := by decide +kernel
theorem gm_45 (hl : l.stackTraces = false) : gc_MM l D cA ad A adV 45 := by
  refine ⟨gb_T45, fun h => absurd h (by decide +kernel), fun as σ o hg => ?_⟩
  have hM : ∀ mid ∈ ([19, 21, 23, 44] : List Nat), gc_MM l D cA ad A adV mid := (List.forall_mem_cons.mpr ⟨gm_19 hl, List.forall_mem_cons.mpr ⟨gm_21 hl, List.forall_mem_cons.mpr ⟨gm_23 hl, List.forall_mem_cons.mpr ⟨gm_44 hl, fun _ h => nomatch h⟩⟩⟩⟩)
  replace hg : c_X8_readLessons as gaSH σ some = some o := hg
  unfold c_X8_readLessons at hg
  split at hg
  · skip
    rename_i r0
    obtain ⟨hb, hg⟩ := gc_bif hg
    obtain rfl := Nat.eq_of_beq_eq_true hb
    obtain ⟨q, hq, hg⟩ := gc_bind hg
    obtain rfl := Option.some.inj hg
    exact gc_metG (maxL := 2) (lf := true) hl gc_pnX8 rfl gb_oX8 gc_rk_X8_readLessons gb_nX8 hM gc_ck_X8_readLessons (t_X8_readLessons σ _ hq) gc_hoI rfl (fun v hv => by cases hv; exact Or.inr ⟨rfl, z_X8_readLessons σ _ hq⟩) (Nat.le_of_ble_eq_true rfl) rfl
  · cases hg
theorem gc_rk_X12_must : cl_X12_must.all (gb_rk gb_flX12 gb_slX12 gb_nlX12 gb_llX12 gb_tlX12 cX12_must) = true := by decide +kernel
theorem gc_ck_X12_must : cl_X12_must.all (gc_ck gb_lkX12 gb_lnX12 [60, 61, 62] 6) = true := by decide +kernel
theorem gm_63 (hl : l.stackTraces = false) : gc_MM l D cA ad A adV 63 := by
  refine ⟨gb_T63, fun h => absurd h (by decide +kernel), fun as σ o hg => ?_⟩
  have hM : ∀ mid ∈ ([60, 61, 62] : List Nat), gc_MM l D cA ad A adV mid := (List.forall_mem_cons.mpr ⟨gm_60 hl, List.forall_mem_cons.mpr ⟨gm_61 hl, List.forall_mem_cons.mpr ⟨gm_62 hl, fun _ h => nomatch h⟩⟩⟩)
  replace hg : c_X12_must as gaSH σ some = some o := hg
  unfold c_X12_must at hg
  split at hg
  · skip
    rename_i r0 a
    obtain ⟨hb, hg⟩ := gc_bif hg
    obtain rfl := Nat.eq_of_beq_eq_true hb
    obtain ⟨q, hq, hg⟩ := gc_bind hg
    obtain rfl := Option.some.inj hg
    exact gc_metG (maxL := 2) (lf := true) hl gc_pnX12 rfl gb_oX12 gc_rk_X12_must gb_nX12 hM gc_ck_X12_must (t_X12_must a σ _ hq) gc_hoV rfl (fun v hv => by cases hv; rfl) (Nat.le_of_ble_eq_true rfl) rfl
  · cases hg
theorem gc_rk_X9_findStep : cl_X9_findStep.all (gb_rk gb_flX9 gb_slX9 gb_nlX9 gb_llX9 gb_tlX9 cX9_findStep) = true := by decide +kernel
theorem gc_ck_X9_findStep : cl_X9_findStep.all (gc_ck gb_lkX9 gb_lnX9 [21, 80] 6) = true := by decide +kernel
theorem gm_81 (hl : l.stackTraces = false) : gc_MM l D cA ad A adV 81 := by
  refine ⟨gb_T81, fun h => absurd h (by decide +kernel), fun as σ o hg => ?_⟩
  have hM : ∀ mid ∈ ([21, 80] : List Nat), gc_MM l D cA ad A adV mid := (List.forall_mem_cons.mpr ⟨gm_21 hl, List.forall_mem_cons.mpr ⟨gm_80 hl, fun _ h => nomatch h⟩⟩)
  replace hg : c_X9_findStep as gaSH σ some = some o := hg
  unfold c_X9_findStep at hg
  split at hg
  · skip
    rename_i r0
    obtain ⟨hb, hg⟩ := gc_bif hg
    obtain rfl := Nat.eq_of_beq_eq_true hb
    obtain ⟨q, hq, hg⟩ := gc_bind hg
    obtain rfl := Option.some.inj hg
    exact gc_metP (maxL := 2) (lf := true) hl gc_pnX9 rfl gb_oX9 gc_rk_X9_findStep gb_nX9 hM gc_ck_X9_findStep (t_X9_findStep σ _ hq) gd_hoI rfl (fun v hv => by cases hv; exact Or.inl rfl) (Nat.le_of_ble_eq_true rfl) rfl
  · cases hg
theorem gc_rk_X2_perform : cl_X2_perform.all (gb_rk gb_flX2 gb_slX2 gb_nlX2 gb_llX2 gb_tlX2 cX2_perform) = true := by decide +kernel
theorem gc_ck_X2_perform : cl_X2_perform.all (gc_ck gb_lkX2 gb_lnX2 [41, 84, 86, 87, 89, 103, 104, 106, 107, 111, 114, 119, 121, 122] 6) = true := by decide +kernel
theorem gm_123 (hl : l.stackTraces = false) : gc_MM l D cA ad A adV 123 := by
  refine ⟨gb_T123, fun h => absurd h (by decide +kernel), fun as σ o hg => ?_⟩
  have hM : ∀ mid ∈ ([41, 84, 86, 87, 89, 103, 104, 106, 107, 111, 114, 119, 121, 122] : List Nat), gc_MM l D cA ad A adV mid := (List.forall_mem_cons.mpr ⟨gm_41 hl, List.forall_mem_cons.mpr ⟨gm_84 hl, List.forall_mem_cons.mpr ⟨gm_86 hl, List.forall_mem_cons.mpr ⟨gm_87 hl, List.forall_mem_cons.mpr ⟨gm_89 hl, List.forall_mem_cons.mpr ⟨gm_103 hl, List.forall_mem_cons.mpr ⟨gm_104 hl, List.forall_mem_cons.mpr ⟨gm_106 hl, List.forall_mem_cons.mpr ⟨gm_107 hl, List.forall_mem_cons.mpr ⟨gm_111 hl, List.forall_mem_cons.mpr ⟨gm_114 hl, List.forall_mem_cons.mpr ⟨gm_119 hl, List.forall_mem_cons.mpr ⟨gm_121 hl, List.forall_mem_cons.mpr ⟨gm_122 hl, fun _ h => nomatch h⟩⟩⟩⟩⟩⟩⟩⟩⟩⟩⟩⟩⟩⟩)
  replace hg : c_X2_perform as gaSH σ some = some o := hg
  unfold c_X2_perform at hg
  split at hg
  · skip
    rename_i r0 a b c
    obtain ⟨hb, hg⟩ := gc_bif hg
    obtain rfl := Nat.eq_of_beq_eq_true hb
    obtain ⟨q, hq, hg⟩ := gc_bind hg
    obtain rfl := Option.some.inj hg
    exact gc_metG (maxL := 4) (lf := true) hl gc_pnX2 rfl gb_oX2 gc_rk_X2_perform gb_nX2 hM gc_ck_X2_perform (t_X2_perform a b c σ _ hq) gc_hoI rfl (fun v hv => by cases hv; exact Or.inr ⟨rfl, z_X2_perform a b c σ _ hq⟩) (Nat.le_of_ble_eq_true rfl) rfl
  · cases hg
theorem gc_rk_X12_stepHere : cl_X12_stepHere.all (gb_rk gb_flX12 gb_slX12 gb_nlX12 gb_llX12 gb_tlX12 cX12_stepHere) = true := by decide +kernel
theorem gc_ck_X12_stepHere : cl_X12_stepHere.all (gc_ck gb_lkX12 gb_lnX12 [60] 6) = true := by decide +kernel
theorem gm_127 (hl : l.stackTraces = false) : gc_MM l D cA ad A adV 127 := by
  refine ⟨gb_T127, fun h => absurd h (by decide +kernel), fun as σ o hg => ?_⟩
  have hM : ∀ mid ∈ ([60] : List Nat), gc_MM l D cA ad A adV mid := (List.forall_mem_cons.mpr ⟨gm_60 hl, fun _ h => nomatch h⟩)
  replace hg : c_X12_stepHere as gaSH σ some = some o := hg
  unfold c_X12_stepHere at hg
  split at hg
  · skip
    rename_i r0
    obtain ⟨hb, hg⟩ := gc_bif hg
    obtain rfl := Nat.eq_of_beq_eq_true hb
    obtain ⟨q, hq, hg⟩ := gc_bind hg
    obtain rfl := Option.some.inj hg
    exact gc_metP (maxL := 1) (lf := true) hl gc_pnX12 rfl gb_oX12 gc_rk_X12_stepHere gb_nX12 hM gc_ck_X12_stepHere (t_X12_stepHere σ _ hq) gd_hoI rfl (fun v hv => by cases hv; exact Or.inl rfl) (Nat.le_of_ble_eq_true rfl) rfl
  · cases hg
theorem gc_rk_X12_goes1 : cl_X12_goes1.all (gb_rk gb_flX12 gb_slX12 gb_nlX12 gb_llX12 gb_tlX12 cX12_goes) = true := by decide +kernel
theorem gc_ck_X12_goes1 : cl_X12_goes1.all (gc_ck gb_lkX12 gb_lnX12 [137, 139, 143, 144, 145, 148, 150] 6) = true := by decide +kernel
theorem gm_151 (hl : l.stackTraces = false) : gc_MM l D cA ad A adV 151 := by
  refine ⟨gb_T151, fun h => absurd h (by decide +kernel), fun as σ o hg => ?_⟩
  have hM : ∀ mid ∈ ([137, 139, 143, 144, 145, 148, 150] : List Nat), gc_MM l D cA ad A adV mid := (List.forall_mem_cons.mpr ⟨gm_137 hl, List.forall_mem_cons.mpr ⟨gm_139 hl, List.forall_mem_cons.mpr ⟨gm_143 hl, List.forall_mem_cons.mpr ⟨gm_144 hl, List.forall_mem_cons.mpr ⟨gm_145 hl, List.forall_mem_cons.mpr ⟨gm_148 hl, List.forall_mem_cons.mpr ⟨gm_150 hl, fun _ h => nomatch h⟩⟩⟩⟩⟩⟩⟩)
  replace hg : c_X12_goes1 as gaSH σ some = some o := hg
  unfold c_X12_goes1 at hg
  split at hg
  · skip
    rename_i r0 a b c d
    obtain ⟨hb, hg⟩ := gc_bif hg
    obtain rfl := Nat.eq_of_beq_eq_true hb
    obtain ⟨q, hq, hg⟩ := gc_bind hg
    obtain rfl := Option.some.inj hg
    exact gc_metG (maxL := 9) (lf := true) hl gc_pnX12 rfl gb_oX12 gc_rk_X12_goes1 gb_nX12 hM gc_ck_X12_goes1 (t_X12_goes1 a b c d σ _ hq) gc_hoV rfl (fun v hv => by cases hv; rfl) (Nat.le_of_ble_eq_true rfl) rfl
  · cases hg
theorem gc_rk_X11_repairAll : cl_X11_repairAll.all (gb_rk gb_flX11 gb_slX11 gb_nlX11 gb_llX11 gb_tlX11 cX11_repairAll) = true := by decide +kernel
theorem gc_ck_X11_repairAll : cl_X11_repairAll.all (gc_ck gb_lkX11 gb_lnX11 [77, 78, 122] 6) = true := by decide +kernel
theorem gm_180 (hl : l.stackTraces = false) : gc_MM l D cA ad A adV 180 := by
  refine ⟨gb_T180, fun h => absurd h (by decide +kernel), fun as σ o hg => ?_⟩
  have hM : ∀ mid ∈ ([77, 78, 122] : List Nat), gc_MM l D cA ad A adV mid := (List.forall_mem_cons.mpr ⟨gm_77 hl, List.forall_mem_cons.mpr ⟨gm_78 hl, List.forall_mem_cons.mpr ⟨gm_122 hl, fun _ h => nomatch h⟩⟩⟩)
  replace hg : c_X11_repairAll as gaSH σ some = some o := hg
  unfold c_X11_repairAll at hg
  split at hg
  · skip
    rename_i r0
    obtain ⟨hb, hg⟩ := gc_bif hg
    obtain rfl := Nat.eq_of_beq_eq_true hb
    obtain ⟨q, hq, hg⟩ := gc_bind hg
    obtain rfl := Option.some.inj hg
    exact gc_metG (maxL := 2) (lf := true) hl gc_pnX11 rfl gb_oX11 gc_rk_X11_repairAll gb_nX11 hM gc_ck_X11_repairAll (t_X11_repairAll σ _ hq) gc_hoI rfl (fun v hv => by cases hv; exact Or.inl rfl) (Nat.le_of_ble_eq_true rfl) rfl
  · cases hg
theorem gc_rk_X11_exchange : cl_X11_exchange.all (gb_rk gb_flX11 gb_slX11 gb_nlX11 gb_llX11 gb_tlX11 cX11_exchange) = true := by decide +kernel
theorem gc_ck_X11_exchange : cl_X11_exchange.all (gc_ck gb_lkX11 gb_lnX11 [1, 77, 114, 405, 406] 6) = true := by decide +kernel
theorem gm_410 (hl : l.stackTraces = false) : gc_MM l D cA ad A adV 410 := by
  refine ⟨gb_T410, fun h => absurd h (by decide +kernel), fun as σ o hg => ?_⟩
  have hM : ∀ mid ∈ ([1, 77, 114, 405, 406] : List Nat), gc_MM l D cA ad A adV mid := (List.forall_mem_cons.mpr ⟨gm_1 hl, List.forall_mem_cons.mpr ⟨gm_77 hl, List.forall_mem_cons.mpr ⟨gm_114 hl, List.forall_mem_cons.mpr ⟨gm_405 hl, List.forall_mem_cons.mpr ⟨gm_406 hl, fun _ h => nomatch h⟩⟩⟩⟩⟩)
  replace hg : c_X11_exchange as gaSH σ some = some o := hg
  unfold c_X11_exchange at hg
  split at hg
  · skip
    rename_i r0 a b
    obtain ⟨hb, hg⟩ := gc_bif hg
    obtain rfl := Nat.eq_of_beq_eq_true hb
    obtain ⟨q, hq, hg⟩ := gc_bind hg
    obtain ⟨q, s1⟩ := q
    cases q with
    | inl x =>
      obtain rfl := Option.some.inj hg
      exact gc_metG (maxL := 3) (lf := true) hl gc_pnX11 rfl gb_oX11 gc_rk_X11_exchange gb_nX11 hM gc_ck_X11_exchange (t_X11_exchange a b σ _ hq) gc_hoIXl rfl (fun v hv => by cases hv; exact Or.inl rfl) (Nat.le_of_ble_eq_true rfl) rfl
    | inr E =>
      obtain rfl := Option.some.inj hg
      exact gc_metG (maxL := 3) (lf := true) hl gc_pnX11 rfl gb_oX11 gc_rk_X11_exchange gb_nX11 hM gc_ck_X11_exchange (t_X11_exchange a b σ _ hq) gc_hoIXr rfl (fun v hv => by cases hv) (Nat.le_of_ble_eq_true rfl) rfl
  · cases hg
theorem gc_rk_X11_move : cl_X11_move.all (gb_rk gb_flX11 gb_slX11 gb_nlX11 gb_llX11 gb_tlX11 cX11_move) = true := by decide +kernel
theorem gc_ck_X11_move : cl_X11_move.all (gc_ck gb_lkX11 gb_lnX11 [1, 77, 111, 405, 406, 411] 6) = true := by decide +kernel
theorem gm_412 (hl : l.stackTraces = false) : gc_MM l D cA ad A adV 412 := by
  refine ⟨gb_T412, fun h => absurd h (by decide +kernel), fun as σ o hg => ?_⟩
  have hM : ∀ mid ∈ ([1, 77, 111, 405, 406, 411] : List Nat), gc_MM l D cA ad A adV mid := (List.forall_mem_cons.mpr ⟨gm_1 hl, List.forall_mem_cons.mpr ⟨gm_77 hl, List.forall_mem_cons.mpr ⟨gm_111 hl, List.forall_mem_cons.mpr ⟨gm_405 hl, List.forall_mem_cons.mpr ⟨gm_406 hl, List.forall_mem_cons.mpr ⟨gm_411 hl, fun _ h => nomatch h⟩⟩⟩⟩⟩⟩)
  replace hg : c_X11_move as gaSH σ some = some o := hg
  unfold c_X11_move at hg
  split at hg
  · skip
    rename_i r0 a b
    obtain ⟨hb, hg⟩ := gc_bif hg
    obtain rfl := Nat.eq_of_beq_eq_true hb
    obtain ⟨q, hq, hg⟩ := gc_bind hg
    obtain ⟨q, s1⟩ := q
    cases q with
    | inl x =>
      obtain rfl := Option.some.inj hg
      exact gc_metG (maxL := 4) (lf := true) hl gc_pnX11 rfl gb_oX11 gc_rk_X11_move gb_nX11 hM gc_ck_X11_move (t_X11_move a b σ _ hq) gc_hoIXl rfl (fun v hv => by cases hv; exact Or.inl rfl) (Nat.le_of_ble_eq_true rfl) rfl
    | inr E =>
      obtain rfl := Option.some.inj hg
      exact gc_metG (maxL := 4) (lf := true) hl gc_pnX11 rfl gb_oX11 gc_rk_X11_move gb_nX11 hM gc_ck_X11_move (t_X11_move a b σ _ hq) gc_hoIXr rfl (fun v hv => by cases hv) (Nat.le_of_ble_eq_true rfl) rfl
  · cases hg
theorem gc_rk_X8_readGrid : cl_X8_readGrid.all (gb_rk gb_flX8 gb_slX8 gb_nlX8 gb_llX8 gb_tlX8 cX8_readGrid) = true := by decide +kernel
theorem gc_ck_X8_readGrid : cl_X8_readGrid.all (gc_ck gb_lkX8 gb_lnX8 [24, 25, 26, 27] 7) = true := by decide +kernel
theorem gm_28 (hl : l.stackTraces = false) : gc_MM l D cA ad A adV 28 := by
  refine ⟨gb_T28, fun h => absurd h (by decide +kernel), fun as σ o hg => ?_⟩
  have hM : ∀ mid ∈ ([24, 25, 26, 27] : List Nat), gc_MM l D cA ad A adV mid := (List.forall_mem_cons.mpr ⟨gm_24 hl, List.forall_mem_cons.mpr ⟨gm_25 hl, List.forall_mem_cons.mpr ⟨gm_26 hl, List.forall_mem_cons.mpr ⟨gm_27 hl, fun _ h => nomatch h⟩⟩⟩⟩)
  replace hg : c_X8_readGrid as gaSH σ some = some o := hg
  unfold c_X8_readGrid at hg
  split at hg
  · skip
    rename_i r0
    obtain ⟨hb, hg⟩ := gc_bif hg
    obtain rfl := Nat.eq_of_beq_eq_true hb
    obtain ⟨q, hq, hg⟩ := gc_bind hg
    obtain rfl := Option.some.inj hg
    exact gc_metG (maxL := 1) (lf := true) hl gc_pnX8 rfl gb_oX8 gc_rk_X8_readGrid gb_nX8 hM gc_ck_X8_readGrid (t_X8_readGrid σ _ hq) gc_hoI rfl (fun v hv => by cases hv; exact Or.inr ⟨rfl, z_X8_readGrid σ _ hq⟩) (Nat.le_of_ble_eq_true rfl) rfl
  · cases hg
theorem gc_rk_X8_readSubjects : cl_X8_readSubjects.all (gb_rk gb_flX8 gb_slX8 gb_nlX8 gb_llX8 gb_tlX8 cX8_readSubjects) = true := by decide +kernel
theorem gc_ck_X8_readSubjects : cl_X8_readSubjects.all (gc_ck gb_lkX8 gb_lnX8 [21, 23, 24, 25, 26, 27, 29] 7) = true := by decide +kernel
theorem gm_30 (hl : l.stackTraces = false) : gc_MM l D cA ad A adV 30 := by
  refine ⟨gb_T30, fun h => absurd h (by decide +kernel), fun as σ o hg => ?_⟩
  have hM : ∀ mid ∈ ([21, 23, 24, 25, 26, 27, 29] : List Nat), gc_MM l D cA ad A adV mid := (List.forall_mem_cons.mpr ⟨gm_21 hl, List.forall_mem_cons.mpr ⟨gm_23 hl, List.forall_mem_cons.mpr ⟨gm_24 hl, List.forall_mem_cons.mpr ⟨gm_25 hl, List.forall_mem_cons.mpr ⟨gm_26 hl, List.forall_mem_cons.mpr ⟨gm_27 hl, List.forall_mem_cons.mpr ⟨gm_29 hl, fun _ h => nomatch h⟩⟩⟩⟩⟩⟩⟩)
  replace hg : c_X8_readSubjects as gaSH σ some = some o := hg
  unfold c_X8_readSubjects at hg
  split at hg
  · skip
    rename_i r0
    obtain ⟨hb, hg⟩ := gc_bif hg
    obtain rfl := Nat.eq_of_beq_eq_true hb
    obtain ⟨q, hq, hg⟩ := gc_bind hg
    obtain rfl := Option.some.inj hg
    exact gc_metG (maxL := 2) (lf := true) hl gc_pnX8 rfl gb_oX8 gc_rk_X8_readSubjects gb_nX8 hM gc_ck_X8_readSubjects (t_X8_readSubjects σ _ hq) gc_hoI rfl (fun v hv => by cases hv; exact Or.inr ⟨rfl, z_X8_readSubjects σ _ hq⟩) (Nat.le_of_ble_eq_true rfl) rfl
  · cases hg
theorem gc_rk_X8_readTeachers : cl_X8_readTeachers.all (gb_rk gb_flX8 gb_slX8 gb_nlX8 gb_llX8 gb_tlX8 cX8_readTeachers) = true := by decide +kernel
theorem gc_ck_X8_readTeachers : cl_X8_readTeachers.all (gc_ck gb_lkX8 gb_lnX8 [21, 23, 24, 33] 7) = true := by decide +kernel
theorem gm_34 (hl : l.stackTraces = false) : gc_MM l D cA ad A adV 34 := by
  refine ⟨gb_T34, fun h => absurd h (by decide +kernel), fun as σ o hg => ?_⟩
  have hM : ∀ mid ∈ ([21, 23, 24, 33] : List Nat), gc_MM l D cA ad A adV mid := (List.forall_mem_cons.mpr ⟨gm_21 hl, List.forall_mem_cons.mpr ⟨gm_23 hl, List.forall_mem_cons.mpr ⟨gm_24 hl, List.forall_mem_cons.mpr ⟨gm_33 hl, fun _ h => nomatch h⟩⟩⟩⟩)
  replace hg : c_X8_readTeachers as gaSH σ some = some o := hg
  unfold c_X8_readTeachers at hg
  split at hg
  · skip
    rename_i r0
    obtain ⟨hb, hg⟩ := gc_bif hg
    obtain rfl := Nat.eq_of_beq_eq_true hb
    obtain ⟨q, hq, hg⟩ := gc_bind hg
    obtain rfl := Option.some.inj hg
    exact gc_metG (maxL := 2) (lf := true) hl gc_pnX8 rfl gb_oX8 gc_rk_X8_readTeachers gb_nX8 hM gc_ck_X8_readTeachers (t_X8_readTeachers σ _ hq) gc_hoI rfl (fun v hv => by cases hv; exact Or.inr ⟨rfl, z_X8_readTeachers σ _ hq⟩) (Nat.le_of_ble_eq_true rfl) rfl
  · cases hg
theorem gc_rk_X8_readRooms : cl_X8_readRooms.all (gb_rk gb_flX8 gb_slX8 gb_nlX8 gb_llX8 gb_tlX8 cX8_readRooms) = true := by decide +kernel
theorem gc_ck_X8_readRooms : cl_X8_readRooms.all (gc_ck gb_lkX8 gb_lnX8 [21, 23, 24, 25, 26, 27, 35] 7) = true := by decide +kernel
theorem gm_36 (hl : l.stackTraces = false) : gc_MM l D cA ad A adV 36 := by
  refine ⟨gb_T36, fun h => absurd h (by decide +kernel), fun as σ o hg => ?_⟩
  have hM : ∀ mid ∈ ([21, 23, 24, 25, 26, 27, 35] : List Nat), gc_MM l D cA ad A adV mid := (List.forall_mem_cons.mpr ⟨gm_21 hl, List.forall_mem_cons.mpr ⟨gm_23 hl, List.forall_mem_cons.mpr ⟨gm_24 hl, List.forall_mem_cons.mpr ⟨gm_25 hl, List.forall_mem_cons.mpr ⟨gm_26 hl, List.forall_mem_cons.mpr ⟨gm_27 hl, List.forall_mem_cons.mpr ⟨gm_35 hl, fun _ h => nomatch h⟩⟩⟩⟩⟩⟩⟩)
  replace hg : c_X8_readRooms as gaSH σ some = some o := hg
  unfold c_X8_readRooms at hg
  split at hg
  · skip
    rename_i r0
    obtain ⟨hb, hg⟩ := gc_bif hg
    obtain rfl := Nat.eq_of_beq_eq_true hb
    obtain ⟨q, hq, hg⟩ := gc_bind hg
    obtain rfl := Option.some.inj hg
    exact gc_metG (maxL := 2) (lf := true) hl gc_pnX8 rfl gb_oX8 gc_rk_X8_readRooms gb_nX8 hM gc_ck_X8_readRooms (t_X8_readRooms σ _ hq) gc_hoI rfl (fun v hv => by cases hv; exact Or.inr ⟨rfl, z_X8_readRooms σ _ hq⟩) (Nat.le_of_ble_eq_true rfl) rfl
  · cases hg
theorem gc_rk_X8_readClasses : cl_X8_readClasses.all (gb_rk gb_flX8 gb_slX8 gb_nlX8 gb_llX8 gb_tlX8 cX8_readClasses) = true := by decide +kernel
theorem gc_ck_X8_readClasses : cl_X8_readClasses.all (gc_ck gb_lkX8 gb_lnX8 [24, 25, 26, 27] 7) = true := by decide +kernel
theorem gm_37 (hl : l.stackTraces = false) : gc_MM l D cA ad A adV 37 := by
  refine ⟨gb_T37, fun h => absurd h (by decide +kernel), fun as σ o hg => ?_⟩
  have hM : ∀ mid ∈ ([24, 25, 26, 27] : List Nat), gc_MM l D cA ad A adV mid := (List.forall_mem_cons.mpr ⟨gm_24 hl, List.forall_mem_cons.mpr ⟨gm_25 hl, List.forall_mem_cons.mpr ⟨gm_26 hl, List.forall_mem_cons.mpr ⟨gm_27 hl, fun _ h => nomatch h⟩⟩⟩⟩)
  replace hg : c_X8_readClasses as gaSH σ some = some o := hg
  unfold c_X8_readClasses at hg
  split at hg
  · skip
    rename_i r0
    obtain ⟨hb, hg⟩ := gc_bif hg
    obtain rfl := Nat.eq_of_beq_eq_true hb
    obtain ⟨q, hq, hg⟩ := gc_bind hg
    obtain rfl := Option.some.inj hg
    exact gc_metG (maxL := 1) (lf := true) hl gc_pnX8 rfl gb_oX8 gc_rk_X8_readClasses gb_nX8 hM gc_ck_X8_readClasses (t_X8_readClasses σ _ hq) gc_hoI rfl (fun v hv => by cases hv; exact Or.inr ⟨rfl, z_X8_readClasses σ _ hq⟩) (Nat.le_of_ble_eq_true rfl) rfl
  · cases hg
theorem gc_rk_X12_readKinds : cl_X12_readKinds.all (gb_rk gb_flX12 gb_slX12 gb_nlX12 gb_llX12 gb_tlX12 cX12_readKinds) = true := by decide +kernel
theorem gc_ck_X12_readKinds : cl_X12_readKinds.all (gc_ck gb_lkX12 gb_lnX12 [60, 62, 63, 66, 67] 7) = true := by decide +kernel
theorem gm_68 (hl : l.stackTraces = false) : gc_MM l D cA ad A adV 68 := by
  refine ⟨gb_T68, fun h => absurd h (by decide +kernel), fun as σ o hg => ?_⟩
  have hM : ∀ mid ∈ ([60, 62, 63, 66, 67] : List Nat), gc_MM l D cA ad A adV mid := (List.forall_mem_cons.mpr ⟨gm_60 hl, List.forall_mem_cons.mpr ⟨gm_62 hl, List.forall_mem_cons.mpr ⟨gm_63 hl, List.forall_mem_cons.mpr ⟨gm_66 hl, List.forall_mem_cons.mpr ⟨gm_67 hl, fun _ h => nomatch h⟩⟩⟩⟩⟩)
  replace hg : c_X12_readKinds as gaSH σ some = some o := hg
  unfold c_X12_readKinds at hg
  split at hg
  · skip
    rename_i r0 a b c d
    obtain ⟨hb, hg⟩ := gc_bif hg
    obtain rfl := Nat.eq_of_beq_eq_true hb
    obtain ⟨q, hq, hg⟩ := gc_bind hg
    obtain rfl := Option.some.inj hg
    exact gc_metG (maxL := 6) (lf := true) hl gc_pnX12 rfl gb_oX12 gc_rk_X12_readKinds gb_nX12 hM gc_ck_X12_readKinds (t_X12_readKinds a b c d σ _ hq) gc_hoV rfl (fun v hv => by cases hv; rfl) (Nat.le_of_ble_eq_true rfl) rfl
  · cases hg
theorem gc_rk_X12_readTeachers : cl_X12_readTeachers.all (gb_rk gb_flX12 gb_slX12 gb_nlX12 gb_llX12 gb_tlX12 cX12_readTeachers) = true := by decide +kernel
theorem gc_ck_X12_readTeachers : cl_X12_readTeachers.all (gc_ck gb_lkX12 gb_lnX12 [57, 60, 61, 62, 63, 65, 66, 67, 69] 7) = true := by decide +kernel
theorem gm_70 (hl : l.stackTraces = false) : gc_MM l D cA ad A adV 70 := by
  refine ⟨gb_T70, fun h => absurd h (by decide +kernel), fun as σ o hg => ?_⟩
  have hM : ∀ mid ∈ ([57, 60, 61, 62, 63, 65, 66, 67, 69] : List Nat), gc_MM l D cA ad A adV mid := (List.forall_mem_cons.mpr ⟨gm_57 hl, List.forall_mem_cons.mpr ⟨gm_60 hl, List.forall_mem_cons.mpr ⟨gm_61 hl, List.forall_mem_cons.mpr ⟨gm_62 hl, List.forall_mem_cons.mpr ⟨gm_63 hl, List.forall_mem_cons.mpr ⟨gm_65 hl, List.forall_mem_cons.mpr ⟨gm_66 hl, List.forall_mem_cons.mpr ⟨gm_67 hl, List.forall_mem_cons.mpr ⟨gm_69 hl, fun _ h => nomatch h⟩⟩⟩⟩⟩⟩⟩⟩⟩)
  replace hg : c_X12_readTeachers as gaSH σ some = some o := hg
  unfold c_X12_readTeachers at hg
  split at hg
  · skip
    rename_i r0
    obtain ⟨hb, hg⟩ := gc_bif hg
    obtain rfl := Nat.eq_of_beq_eq_true hb
    obtain ⟨q, hq, hg⟩ := gc_bind hg
    obtain rfl := Option.some.inj hg
    exact gc_metG (maxL := 4) (lf := true) hl gc_pnX12 rfl gb_oX12 gc_rk_X12_readTeachers gb_nX12 hM gc_ck_X12_readTeachers (t_X12_readTeachers σ _ hq) gc_hoV rfl (fun v hv => by cases hv; rfl) (Nat.le_of_ble_eq_true rfl) rfl
  · cases hg
theorem gc_rk_X12_readLesson : cl_X12_readLesson.all (gb_rk gb_flX12 gb_slX12 gb_nlX12 gb_llX12 gb_tlX12 cX12_readLesson) = true := by decide +kernel
theorem gc_ck_X12_readLesson : cl_X12_readLesson.all (gc_ck gb_lkX12 gb_lnX12 [61, 62, 63, 65, 66, 69, 71] 7) = true := by decide +kernel
theorem gm_72 (hl : l.stackTraces = false) : gc_MM l D cA ad A adV 72 := by
  refine ⟨gb_T72, fun h => absurd h (by decide +kernel), fun as σ o hg => ?_⟩
  have hM : ∀ mid ∈ ([61, 62, 63, 65, 66, 69, 71] : List Nat), gc_MM l D cA ad A adV mid := (List.forall_mem_cons.mpr ⟨gm_61 hl, List.forall_mem_cons.mpr ⟨gm_62 hl, List.forall_mem_cons.mpr ⟨gm_63 hl, List.forall_mem_cons.mpr ⟨gm_65 hl, List.forall_mem_cons.mpr ⟨gm_66 hl, List.forall_mem_cons.mpr ⟨gm_69 hl, List.forall_mem_cons.mpr ⟨gm_71 hl, fun _ h => nomatch h⟩⟩⟩⟩⟩⟩⟩)
  replace hg : c_X12_readLesson as gaSH σ some = some o := hg
  unfold c_X12_readLesson at hg
  split at hg
  · skip
    rename_i r0
    obtain ⟨hb, hg⟩ := gc_bif hg
    obtain rfl := Nat.eq_of_beq_eq_true hb
    obtain ⟨q, hq, hg⟩ := gc_bind hg
    obtain rfl := Option.some.inj hg
    exact gc_metG (maxL := 7) (lf := true) hl gc_pnX12 rfl gb_oX12 gc_rk_X12_readLesson gb_nX12 hM gc_ck_X12_readLesson (t_X12_readLesson σ _ hq) gc_hoV rfl (fun v hv => by cases hv; rfl) (Nat.le_of_ble_eq_true rfl) rfl
  · cases hg
theorem gc_rk_X9_readStep : cl_X9_readStep.all (gb_rk gb_flX9 gb_slX9 gb_nlX9 gb_llX9 gb_tlX9 cX9_readStep) = true := by decide +kernel
theorem gc_ck_X9_readStep : cl_X9_readStep.all (gc_ck gb_lkX9 gb_lnX9 [19, 22, 81, 82] 7) = true := by decide +kernel
theorem gm_83 (hl : l.stackTraces = false) : gc_MM l D cA ad A adV 83 := by
  refine ⟨gb_T83, fun h => absurd h (by decide +kernel), fun as σ o hg => ?_⟩
  have hM : ∀ mid ∈ ([19, 22, 81, 82] : List Nat), gc_MM l D cA ad A adV mid := (List.forall_mem_cons.mpr ⟨gm_19 hl, List.forall_mem_cons.mpr ⟨gm_22 hl, List.forall_mem_cons.mpr ⟨gm_81 hl, List.forall_mem_cons.mpr ⟨gm_82 hl, fun _ h => nomatch h⟩⟩⟩⟩)
  replace hg : c_X9_readStep as gaSH σ some = some o := hg
  unfold c_X9_readStep at hg
  split at hg
  · skip
    rename_i r0
    obtain ⟨hb, hg⟩ := gc_bif hg
    obtain rfl := Nat.eq_of_beq_eq_true hb
    obtain ⟨q, hq, hg⟩ := gc_bind hg
    obtain rfl := Option.some.inj hg
    exact gc_metG (maxL := 3) (lf := true) hl gc_pnX9 rfl gb_oX9 gc_rk_X9_readStep gb_nX9 hM gc_ck_X9_readStep (t_X9_readStep σ _ hq) gc_hoI rfl (fun v hv => by cases hv; exact Or.inr ⟨rfl, z_X9_readStep σ _ hq⟩) (Nat.le_of_ble_eq_true rfl) rfl
  · cases hg
theorem gc_rk_X12_goes0 : cl_X12_goes0.all (gb_rk gb_flX12 gb_slX12 gb_nlX12 gb_llX12 gb_tlX12 cX12_goes) = true := by decide +kernel
theorem gc_ck_X12_goes0 : cl_X12_goes0.all (gc_ck gb_lkX12 gb_lnX12 [137, 139, 143, 144, 145, 148, 151] 7) = true := by decide +kernel
theorem gm_152 (hl : l.stackTraces = false) : gc_MM l D cA ad A adV 152 := by
  refine ⟨gb_T152, fun h => absurd h (by decide +kernel), fun as σ o hg => ?_⟩
  have hM : ∀ mid ∈ ([137, 139, 143, 144, 145, 148, 151] : List Nat), gc_MM l D cA ad A adV mid := (List.forall_mem_cons.mpr ⟨gm_137 hl, List.forall_mem_cons.mpr ⟨gm_139 hl, List.forall_mem_cons.mpr ⟨gm_143 hl, List.forall_mem_cons.mpr ⟨gm_144 hl, List.forall_mem_cons.mpr ⟨gm_145 hl, List.forall_mem_cons.mpr ⟨gm_148 hl, List.forall_mem_cons.mpr ⟨gm_151 hl, fun _ h => nomatch h⟩⟩⟩⟩⟩⟩⟩)
  replace hg : c_X12_goes0 as gaSH σ some = some o := hg
  unfold c_X12_goes0 at hg
  split at hg
  · skip
    rename_i r0 a b c d
    obtain ⟨hb, hg⟩ := gc_bif hg
    obtain rfl := Nat.eq_of_beq_eq_true hb
    obtain ⟨q, hq, hg⟩ := gc_bind hg
    obtain rfl := Option.some.inj hg
    exact gc_metG (maxL := 9) (lf := true) hl gc_pnX12 rfl gb_oX12 gc_rk_X12_goes0 gb_nX12 hM gc_ck_X12_goes0 (t_X12_goes0 a b c d σ _ hq) gc_hoV rfl (fun v hv => by cases hv; rfl) (Nat.le_of_ble_eq_true rfl) rfl
  · cases hg
theorem gc_rk_X8_read : cl_X8_read.all (gb_rk gb_flX8 gb_slX8 gb_nlX8 gb_llX8 gb_tlX8 cX8_read) = true := by decide +kernel
theorem gc_ck_X8_read : cl_X8_read.all (gc_ck gb_lkX8 gb_lnX8 [12, 20, 28, 30, 34, 36, 37, 45] 8) = true := by decide +kernel
theorem gm_46 (hl : l.stackTraces = false) : gc_MM l D cA ad A adV 46 := by
  refine ⟨gb_T46, fun h => absurd h (by decide +kernel), fun as σ o hg => ?_⟩
  have hM : ∀ mid ∈ ([12, 20, 28, 30, 34, 36, 37, 45] : List Nat), gc_MM l D cA ad A adV mid := (List.forall_mem_cons.mpr ⟨gm_12 hl, List.forall_mem_cons.mpr ⟨gm_20 hl, List.forall_mem_cons.mpr ⟨gm_28 hl, List.forall_mem_cons.mpr ⟨gm_30 hl, List.forall_mem_cons.mpr ⟨gm_34 hl, List.forall_mem_cons.mpr ⟨gm_36 hl, List.forall_mem_cons.mpr ⟨gm_37 hl, List.forall_mem_cons.mpr ⟨gm_45 hl, fun _ h => nomatch h⟩⟩⟩⟩⟩⟩⟩⟩)
  replace hg : c_X8_read as gaSH σ some = some o := hg
  unfold c_X8_read at hg
  split at hg
  · skip
    rename_i r0
    obtain ⟨hb, hg⟩ := gc_bif hg
    obtain rfl := Nat.eq_of_beq_eq_true hb
    obtain ⟨q, hq, hg⟩ := gc_bind hg
    obtain rfl := Option.some.inj hg
    exact gc_metG (maxL := 1) (lf := true) hl gc_pnX8 rfl gb_oX8 gc_rk_X8_read gb_nX8 hM gc_ck_X8_read (t_X8_read σ _ hq) gc_hoI rfl (fun v hv => by cases hv; exact Or.inr ⟨rfl, z_X8_read σ _ hq⟩) (Nat.le_of_ble_eq_true rfl) rfl
  · cases hg
theorem gc_rk_X12_parseSchool : cl_X12_parseSchool.all (gb_rk gb_flX12 gb_slX12 gb_nlX12 gb_llX12 gb_tlX12 cX12_parseSchool) = true := by decide +kernel
theorem gc_ck_X12_parseSchool : cl_X12_parseSchool.all (gc_ck gb_lkX12 gb_lnX12 [59, 60, 62, 63, 66, 68, 70, 72, 74] 8) = true := by decide +kernel
theorem gm_75 (hl : l.stackTraces = false) : gc_MM l D cA ad A adV 75 := by
  refine ⟨gb_T75, fun h => absurd h (by decide +kernel), fun as σ o hg => ?_⟩
  have hM : ∀ mid ∈ ([59, 60, 62, 63, 66, 68, 70, 72, 74] : List Nat), gc_MM l D cA ad A adV mid := (List.forall_mem_cons.mpr ⟨gm_59 hl, List.forall_mem_cons.mpr ⟨gm_60 hl, List.forall_mem_cons.mpr ⟨gm_62 hl, List.forall_mem_cons.mpr ⟨gm_63 hl, List.forall_mem_cons.mpr ⟨gm_66 hl, List.forall_mem_cons.mpr ⟨gm_68 hl, List.forall_mem_cons.mpr ⟨gm_70 hl, List.forall_mem_cons.mpr ⟨gm_72 hl, List.forall_mem_cons.mpr ⟨gm_74 hl, fun _ h => nomatch h⟩⟩⟩⟩⟩⟩⟩⟩⟩)
  replace hg : c_X12_parseSchool as gaSH σ some = some o := hg
  unfold c_X12_parseSchool at hg
  split at hg
  · skip
    rename_i r0
    obtain ⟨hb, hg⟩ := gc_bif hg
    obtain rfl := Nat.eq_of_beq_eq_true hb
    obtain ⟨q, hq, hg⟩ := gc_bind hg
    obtain rfl := Option.some.inj hg
    exact gc_metG (maxL := 2) (lf := true) hl gc_pnX12 rfl gb_oX12 gc_rk_X12_parseSchool gb_nX12 hM gc_ck_X12_parseSchool (t_X12_parseSchool σ _ hq) gc_hoI rfl (fun v hv => by cases hv; exact Or.inl rfl) (Nat.le_of_ble_eq_true rfl) rfl
  · cases hg
theorem gc_rk_X11_runScript : cl_X11_runScript.all (gb_rk gb_flX11 gb_slX11 gb_nlX11 gb_llX11 gb_tlX11 cX11_runScript) = true := by decide +kernel
theorem gc_ck_X11_runScript : cl_X11_runScript.all (gc_ck gb_lkX11 gb_lnX11 [19, 20, 22, 77, 78, 79, 83, 123] 8) = true := by decide +kernel
theorem gm_124 (hl : l.stackTraces = false) : gc_MM l D cA ad A adV 124 := by
  refine ⟨gb_T124, fun h => absurd h (by decide +kernel), fun as σ o hg => ?_⟩
  have hM : ∀ mid ∈ ([19, 20, 22, 77, 78, 79, 83, 123] : List Nat), gc_MM l D cA ad A adV mid := (List.forall_mem_cons.mpr ⟨gm_19 hl, List.forall_mem_cons.mpr ⟨gm_20 hl, List.forall_mem_cons.mpr ⟨gm_22 hl, List.forall_mem_cons.mpr ⟨gm_77 hl, List.forall_mem_cons.mpr ⟨gm_78 hl, List.forall_mem_cons.mpr ⟨gm_79 hl, List.forall_mem_cons.mpr ⟨gm_83 hl, List.forall_mem_cons.mpr ⟨gm_123 hl, fun _ h => nomatch h⟩⟩⟩⟩⟩⟩⟩⟩)
  replace hg : c_X11_runScript as gaSH σ some = some o := hg
  unfold c_X11_runScript at hg
  split at hg
  · skip
    rename_i r0
    obtain ⟨hb, hg⟩ := gc_bif hg
    obtain rfl := Nat.eq_of_beq_eq_true hb
    obtain ⟨q, hq, hg⟩ := gc_bind hg
    obtain rfl := Option.some.inj hg
    exact gc_metG (maxL := 4) (lf := true) hl gc_pnX11 rfl gb_oX11 gc_rk_X11_runScript gb_nX11 hM gc_ck_X11_runScript (t_X11_runScript σ _ hq) gc_hoI rfl (fun v hv => by cases hv; exact Or.inl rfl) (Nat.le_of_ble_eq_true rfl) rfl
  · cases hg
theorem gc_rk_X12_findChain : cl_X12_findChain.all (gb_rk gb_flX12 gb_slX12 gb_nlX12 gb_llX12 gb_tlX12 cX12_findChain) = true := by decide +kernel
theorem gc_ck_X12_findChain : cl_X12_findChain.all (gc_ck gb_lkX12 gb_lnX12 [130, 152] 8) = true := by decide +kernel
theorem gm_153 (hl : l.stackTraces = false) : gc_MM l D cA ad A adV 153 := by
  refine ⟨gb_T153, fun h => absurd h (by decide +kernel), fun as σ o hg => ?_⟩
  have hM : ∀ mid ∈ ([130, 152] : List Nat), gc_MM l D cA ad A adV mid := (List.forall_mem_cons.mpr ⟨gm_130 hl, List.forall_mem_cons.mpr ⟨gm_152 hl, fun _ h => nomatch h⟩⟩)
  replace hg : c_X12_findChain as gaSH σ some = some o := hg
  unfold c_X12_findChain at hg
  split at hg
  · skip
    rename_i r0 a
    obtain ⟨hb, hg⟩ := gc_bif hg
    obtain rfl := Nat.eq_of_beq_eq_true hb
    obtain ⟨q, hq, hg⟩ := gc_bind hg
    obtain rfl := Option.some.inj hg
    exact gc_metG (maxL := 3) (lf := true) hl gc_pnX12 rfl gb_oX12 gc_rk_X12_findChain gb_nX12 hM gc_ck_X12_findChain (t_X12_findChain a σ _ hq) gc_hoI rfl (fun v hv => by cases hv; exact Or.inl rfl) (Nat.le_of_ble_eq_true rfl) rfl
  · cases hg
theorem gc_rk_X11_parseSchool : cl_X11_parseSchool.all (gb_rk gb_flX11 gb_slX11 gb_nlX11 gb_llX11 gb_tlX11 cX11_parseSchool) = true := by decide +kernel
theorem gc_ck_X11_parseSchool : cl_X11_parseSchool.all (gc_ck gb_lkX11 gb_lnX11 [46, 47, 52, 53] 9) = true := by decide +kernel
theorem gm_54 (hl : l.stackTraces = false) : gc_MM l D cA ad A adV 54 := by
  refine ⟨gb_T54, fun h => absurd h (by decide +kernel), fun as σ o hg => ?_⟩
  have hM : ∀ mid ∈ ([46, 47, 52, 53] : List Nat), gc_MM l D cA ad A adV mid := (List.forall_mem_cons.mpr ⟨gm_46 hl, List.forall_mem_cons.mpr ⟨gm_47 hl, List.forall_mem_cons.mpr ⟨gm_52 hl, List.forall_mem_cons.mpr ⟨gm_53 hl, fun _ h => nomatch h⟩⟩⟩⟩)
  replace hg : c_X11_parseSchool as gaSH σ some = some o := hg
  unfold c_X11_parseSchool at hg
  split at hg
  · skip
    rename_i r0
    obtain ⟨hb, hg⟩ := gc_bif hg
    obtain rfl := Nat.eq_of_beq_eq_true hb
    obtain ⟨q, hq, hg⟩ := gc_bind hg
    obtain rfl := Option.some.inj hg
    exact gc_metG (maxL := 2) (lf := true) hl gc_pnX11 rfl gb_oX11 gc_rk_X11_parseSchool gb_nX11 hM gc_ck_X11_parseSchool (t_X11_parseSchool σ _ hq) gc_hoI rfl (fun v hv => by cases hv; exact Or.inl rfl) (Nat.le_of_ble_eq_true rfl) rfl
  · cases hg
theorem gc_rk_X12_canStep : cl_X12_canStep.all (gb_rk gb_flX12 gb_slX12 gb_nlX12 gb_llX12 gb_tlX12 cX12_canStep) = true := by decide +kernel
theorem gc_ck_X12_canStep : cl_X12_canStep.all (gc_ck gb_lkX12 gb_lnX12 [129, 130, 131, 133, 135, 140, 142, 153, 154, 156, 157, 158] 9) = true := by decide +kernel
theorem gm_159 (hl : l.stackTraces = false) : gc_MM l D cA ad A adV 159 := by
  refine ⟨gb_T159, fun h => absurd h (by decide +kernel), fun as σ o hg => ?_⟩
  have hM : ∀ mid ∈ ([129, 130, 131, 133, 135, 140, 142, 153, 154, 156, 157, 158] : List Nat), gc_MM l D cA ad A adV mid := (List.forall_mem_cons.mpr ⟨gm_129 hl, List.forall_mem_cons.mpr ⟨gm_130 hl, List.forall_mem_cons.mpr ⟨gm_131 hl, List.forall_mem_cons.mpr ⟨gm_133 hl, List.forall_mem_cons.mpr ⟨gm_135 hl, List.forall_mem_cons.mpr ⟨gm_140 hl, List.forall_mem_cons.mpr ⟨gm_142 hl, List.forall_mem_cons.mpr ⟨gm_153 hl, List.forall_mem_cons.mpr ⟨gm_154 hl, List.forall_mem_cons.mpr ⟨gm_156 hl, List.forall_mem_cons.mpr ⟨gm_157 hl, List.forall_mem_cons.mpr ⟨gm_158 hl, fun _ h => nomatch h⟩⟩⟩⟩⟩⟩⟩⟩⟩⟩⟩⟩)
  replace hg : c_X12_canStep as gaSH σ some = some o := hg
  unfold c_X12_canStep at hg
  split at hg
  · skip
    rename_i r0 a b c
    obtain ⟨hb, hg⟩ := gc_bif hg
    obtain rfl := Nat.eq_of_beq_eq_true hb
    obtain ⟨q, hq, hg⟩ := gc_bind hg
    obtain rfl := Option.some.inj hg
    exact gc_metG (maxL := 4) (lf := true) hl gc_pnX12 rfl gb_oX12 gc_rk_X12_canStep gb_nX12 hM gc_ck_X12_canStep (t_X12_canStep a b c σ _ hq) gc_hoI rfl (fun v hv => by cases hv; exact Or.inr ⟨rfl, z_X12_canStep a b c σ _ hq⟩) (Nat.le_of_ble_eq_true rfl) rfl
  · cases hg
theorem gc_rk_X12_repairsAll : cl_X12_repairsAll.all (gb_rk gb_flX12 gb_slX12 gb_nlX12 gb_llX12 gb_tlX12 cX12_repairsAll) = true := by decide +kernel
theorem gc_ck_X12_repairsAll : cl_X12_repairsAll.all (gc_ck gb_lkX12 gb_lnX12 [153, 162] 9) = true := by decide +kernel
theorem gm_163 (hl : l.stackTraces = false) : gc_MM l D cA ad A adV 163 := by
  refine ⟨gb_T163, fun h => absurd h (by decide +kernel), fun as σ o hg => ?_⟩
  have hM : ∀ mid ∈ ([153, 162] : List Nat), gc_MM l D cA ad A adV mid := (List.forall_mem_cons.mpr ⟨gm_153 hl, List.forall_mem_cons.mpr ⟨gm_162 hl, fun _ h => nomatch h⟩⟩)
  replace hg : c_X12_repairsAll as gaSH σ some = some o := hg
  unfold c_X12_repairsAll at hg
  split at hg
  · skip
    rename_i r0
    obtain ⟨hb, hg⟩ := gc_bif hg
    obtain rfl := Nat.eq_of_beq_eq_true hb
    obtain ⟨q, hq, hg⟩ := gc_bind hg
    obtain rfl := Option.some.inj hg
    exact gc_metG (maxL := 3) (lf := true) hl gc_pnX12 rfl gb_oX12 gc_rk_X12_repairsAll gb_nX12 hM gc_ck_X12_repairsAll (t_X12_repairsAll σ _ hq) gc_hoI rfl (fun v hv => by cases hv; exact Or.inl rfl) (Nat.le_of_ble_eq_true rfl) rfl
  · cases hg
theorem gc_rk_X12_repair : cl_X12_repair.all (gb_rk gb_flX12 gb_slX12 gb_nlX12 gb_llX12 gb_tlX12 cX12_repair) = true := by decide +kernel
theorem gc_ck_X12_repair : cl_X12_repair.all (gc_ck gb_lkX12 gb_lnX12 [129, 153, 162, 173, 174] 9) = true := by decide +kernel
theorem gm_179 (hl : l.stackTraces = false) : gc_MM l D cA ad A adV 179 := by
  refine ⟨gb_T179, fun h => absurd h (by decide +kernel), fun as σ o hg => ?_⟩
  have hM : ∀ mid ∈ ([129, 153, 162, 173, 174] : List Nat), gc_MM l D cA ad A adV mid := (List.forall_mem_cons.mpr ⟨gm_129 hl, List.forall_mem_cons.mpr ⟨gm_153 hl, List.forall_mem_cons.mpr ⟨gm_162 hl, List.forall_mem_cons.mpr ⟨gm_173 hl, List.forall_mem_cons.mpr ⟨gm_174 hl, fun _ h => nomatch h⟩⟩⟩⟩⟩)
  replace hg : c_X12_repair as gaSH σ some = some o := hg
  unfold c_X12_repair at hg
  split at hg
  · skip
    rename_i r0 a
    obtain ⟨hb, hg⟩ := gc_bif hg
    obtain rfl := Nat.eq_of_beq_eq_true hb
    obtain ⟨q, hq, hg⟩ := gc_bind hg
    obtain rfl := Option.some.inj hg
    exact gc_metG (maxL := 2) (lf := true) hl gc_pnX12 rfl gb_oX12 gc_rk_X12_repair gb_nX12 hM gc_ck_X12_repair (t_X12_repair a σ _ hq) gc_hoI rfl (fun v hv => by cases hv; exact Or.inl rfl) (Nat.le_of_ble_eq_true rfl) rfl
  · cases hg
theorem gc_rk_X12_chain : cl_X12_chain.all (gb_rk gb_flX12 gb_slX12 gb_nlX12 gb_llX12 gb_tlX12 cX12_chain) = true := by decide +kernel
theorem gc_ck_X12_chain : cl_X12_chain.all (gc_ck gb_lkX12 gb_lnX12 [129, 153, 173] 9) = true := by decide +kernel
theorem gm_198 (hl : l.stackTraces = false) : gc_MM l D cA ad A adV 198 := by
  refine ⟨gb_T198, fun h => absurd h (by decide +kernel), fun as σ o hg => ?_⟩
  have hM : ∀ mid ∈ ([129, 153, 173] : List Nat), gc_MM l D cA ad A adV mid := (List.forall_mem_cons.mpr ⟨gm_129 hl, List.forall_mem_cons.mpr ⟨gm_153 hl, List.forall_mem_cons.mpr ⟨gm_173 hl, fun _ h => nomatch h⟩⟩⟩)
  replace hg : c_X12_chain as gaSH σ some = some o := hg
  unfold c_X12_chain at hg
  split at hg
  · skip
    rename_i r0 a
    obtain ⟨hb, hg⟩ := gc_bif hg
    obtain rfl := Nat.eq_of_beq_eq_true hb
    obtain ⟨q, hq, hg⟩ := gc_bind hg
    obtain rfl := Option.some.inj hg
    exact gc_metG (maxL := 2) (lf := true) hl gc_pnX12 rfl gb_oX12 gc_rk_X12_chain gb_nX12 hM gc_ck_X12_chain (t_X12_chain a σ _ hq) gc_hoI rfl (fun v hv => by cases hv; exact Or.inl rfl) (Nat.le_of_ble_eq_true rfl) rfl
  · cases hg
theorem gc_rk_X12_chainTeacher : cl_X12_chainTeacher.all (gb_rk gb_flX12 gb_slX12 gb_nlX12 gb_llX12 gb_tlX12 cX12_chainTeacher) = true := by decide +kernel
theorem gc_ck_X12_chainTeacher : cl_X12_chainTeacher.all (gc_ck gb_lkX12 gb_lnX12 [10, 129, 153, 173] 9) = true := by decide +kernel
theorem gm_199 (hl : l.stackTraces = false) : gc_MM l D cA ad A adV 199 := by
  refine ⟨gb_T199, fun h => absurd h (by decide +kernel), fun as σ o hg => ?_⟩
  have hM : ∀ mid ∈ ([10, 129, 153, 173] : List Nat), gc_MM l D cA ad A adV mid := (List.forall_mem_cons.mpr ⟨gm_10 hl, List.forall_mem_cons.mpr ⟨gm_129 hl, List.forall_mem_cons.mpr ⟨gm_153 hl, List.forall_mem_cons.mpr ⟨gm_173 hl, fun _ h => nomatch h⟩⟩⟩⟩)
  replace hg : c_X12_chainTeacher as gaSH σ some = some o := hg
  unfold c_X12_chainTeacher at hg
  split at hg
  · skip
    rename_i r0 a b
    obtain ⟨hb, hg⟩ := gc_bif hg
    obtain rfl := Nat.eq_of_beq_eq_true hb
    obtain ⟨q, hq, hg⟩ := gc_bind hg
    obtain rfl := Option.some.inj hg
    exact gc_metG (maxL := 3) (lf := true) hl gc_pnX12 rfl gb_oX12 gc_rk_X12_chainTeacher gb_nX12 hM gc_ck_X12_chainTeacher (t_X12_chainTeacher a b σ _ hq) gc_hoI rfl (fun v hv => by cases hv; exact Or.inl rfl) (Nat.le_of_ble_eq_true rfl) rfl
  · cases hg
end
