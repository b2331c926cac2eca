section
variable {l : Launch} {D : va_G} {cA : Nat → ClassId} {ad : Nat → Nat} {A : Nat → Prop} {adV : Nat → Nat}
theorem gc_rk_X8_readClasses : cl_X8_readClasses.all (gb_rk gb_flX8 gb_slX8 gb_nlX8 gb_llX8 gb_tlX8 cX8_readClasses) = true := by decide +kernel
theorem gc_ck_X8_readClasses : cl_X8_readClasses.all (gc_ck gb_lkX8 gb_lnX8 [19, 20, 21, 22] 7) = true := by decide +kernel
theorem gm_32 (hl : l.stackTraces = false) : gc_MM l D cA ad A adV 32 := by
  refine ⟨gb_T32, fun h => absurd h (by decide +kernel), fun as σ o hg => ?_⟩
  have hM : ∀ mid ∈ ([19, 20, 21, 22] : List Nat), gc_MM l D cA ad A adV mid := (List.forall_mem_cons.mpr ⟨gm_19 hl, List.forall_mem_cons.mpr ⟨gm_20 hl, List.forall_mem_cons.mpr ⟨gm_21 hl, List.forall_mem_cons.mpr ⟨gm_22 hl, fun _ h => nomatch h⟩⟩⟩⟩)
  replace hg : c_X8_readClasses as gaSH σ some = some o := hg
  unfold c_X8_readClasses at hg
  split at hg
  · skip
    rename_i r0
    obtain ⟨hb, hg⟩ := gc_bif hg
    obtain rfl := Nat.eq_of_beq_eq_true hb
    obtain ⟨q, hq, hg⟩ := gc_bind hg
    obtain rfl := Option.some.inj hg
    exact gc_metG (maxL := 1) (lf := true) hl gc_pnX8 rfl gb_oX8 gc_rk_X8_readClasses gb_nX8 hM gc_ck_X8_readClasses (t_X8_readClasses σ _ hq) gc_hoI rfl (fun v hv => by cases hv; exact Or.inr ⟨rfl, z_X8_readClasses σ _ hq⟩) (Nat.le_of_ble_eq_true rfl) rfl
  · cases hg
theorem gc_rk_X8_read : cl_X8_read.all (gb_rk gb_flX8 gb_slX8 gb_nlX8 gb_llX8 gb_tlX8 cX8_read) = true := by decide +kernel
theorem gc_ck_X8_read : cl_X8_read.all (gc_ck gb_lkX8 gb_lnX8 [7, 15, 23, 25, 29, 31, 32, 40] 8) = true := by decide +kernel
theorem gm_41 (hl : l.stackTraces = false) : gc_MM l D cA ad A adV 41 := by
  refine ⟨gb_T41, fun h => absurd h (by decide +kernel), fun as σ o hg => ?_⟩
  have hM : ∀ mid ∈ ([7, 15, 23, 25, 29, 31, 32, 40] : List Nat), gc_MM l D cA ad A adV mid := (List.forall_mem_cons.mpr ⟨gm_7 hl, List.forall_mem_cons.mpr ⟨gm_15 hl, List.forall_mem_cons.mpr ⟨gm_23 hl, List.forall_mem_cons.mpr ⟨gm_25 hl, List.forall_mem_cons.mpr ⟨gm_29 hl, List.forall_mem_cons.mpr ⟨gm_31 hl, List.forall_mem_cons.mpr ⟨gm_32 hl, List.forall_mem_cons.mpr ⟨gm_40 hl, fun _ h => nomatch h⟩⟩⟩⟩⟩⟩⟩⟩)
  replace hg : c_X8_read as gaSH σ some = some o := hg
  unfold c_X8_read at hg
  split at hg
  · skip
    rename_i r0
    obtain ⟨hb, hg⟩ := gc_bif hg
    obtain rfl := Nat.eq_of_beq_eq_true hb
    obtain ⟨q, hq, hg⟩ := gc_bind hg
    obtain rfl := Option.some.inj hg
    exact gc_metG (maxL := 1) (lf := true) hl gc_pnX8 rfl gb_oX8 gc_rk_X8_read gb_nX8 hM gc_ck_X8_read (t_X8_read σ _ hq) gc_hoI rfl (fun v hv => by cases hv; exact Or.inr ⟨rfl, z_X8_read σ _ hq⟩) (Nat.le_of_ble_eq_true rfl) rfl
  · cases hg
theorem gc_rk_X11_parseSchool : cl_X11_parseSchool.all (gb_rk gb_flX11 gb_slX11 gb_nlX11 gb_llX11 gb_tlX11 cX11_parseSchool) = true := by decide +kernel
theorem gc_ck_X11_parseSchool : cl_X11_parseSchool.all (gc_ck gb_lkX11 gb_lnX11 [41, 42, 47, 48] 9) = true := by decide +kernel
theorem gm_49 (hl : l.stackTraces = false) : gc_MM l D cA ad A adV 49 := by
  refine ⟨gb_T49, fun h => absurd h (by decide +kernel), fun as σ o hg => ?_⟩
  have hM : ∀ mid ∈ ([41, 42, 47, 48] : List Nat), gc_MM l D cA ad A adV mid := (List.forall_mem_cons.mpr ⟨gm_41 hl, List.forall_mem_cons.mpr ⟨gm_42 hl, List.forall_mem_cons.mpr ⟨gm_47 hl, List.forall_mem_cons.mpr ⟨gm_48 hl, fun _ h => nomatch h⟩⟩⟩⟩)
  replace hg : c_X11_parseSchool as gaSH σ some = some o := hg
  unfold c_X11_parseSchool at hg
  split at hg
  · skip
    rename_i r0
    obtain ⟨hb, hg⟩ := gc_bif hg
    obtain rfl := Nat.eq_of_beq_eq_true hb
    obtain ⟨q, hq, hg⟩ := gc_bind hg
    obtain rfl := Option.some.inj hg
    exact gc_metG (maxL := 2) (lf := true) hl gc_pnX11 rfl gb_oX11 gc_rk_X11_parseSchool gb_nX11 hM gc_ck_X11_parseSchool (t_X11_parseSchool σ _ hq) gc_hoI rfl (fun v hv => by cases hv; exact Or.inl rfl) (Nat.le_of_ble_eq_true rfl) rfl
  · cases hg
end
