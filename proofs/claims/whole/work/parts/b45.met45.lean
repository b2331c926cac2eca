section
variable {l : Launch} {D : va_G} {cA : Nat → ClassId} {ad : Nat → Nat} {A : Nat → Prop} {adV : Nat → Nat}
theorem gc_rk_X12_bring : cl_X12_bring.all (gb_rk gb_flX12 gb_slX12 gb_nlX12 gb_llX12 gb_tlX12 cX12_bring) = true := by decide +kernel
theorem gc_ck_X12_bring : cl_X12_bring.all (gc_ck gb_lkX12 gb_lnX12 [] 0) = true := by decide +kernel
theorem gm_7 (hl : l.stackTraces = false) : gc_MM l D cA ad A adV 7 := by
  refine ⟨gb_T7, fun h => absurd h (by decide +kernel), fun as σ o hg => ?_⟩
  have hM : ∀ mid ∈ ([] : List Nat), gc_MM l D cA ad A adV mid := (fun _ h => nomatch h)
  replace hg : c_X12_bring as gaSH σ some = some o := hg
  unfold c_X12_bring at hg
  split at hg
  · skip
    rename_i r0 a
    obtain ⟨hb, hg⟩ := gc_bif hg
    obtain rfl := Nat.eq_of_beq_eq_true hb
    obtain ⟨q, hq, hg⟩ := gc_bind hg
    obtain rfl := Option.some.inj hg
    exact gc_metG (maxL := 3) (lf := true) hl gc_pnX12 rfl gb_oX12 gc_rk_X12_bring gb_nX12 hM gc_ck_X12_bring (t_X12_bring a σ _ hq) gc_hoV rfl (fun v hv => by cases hv; rfl) (Nat.le_of_ble_eq_true rfl) rfl
  · cases hg
theorem gc_rk_X12_no : cl_X12_no.all (gb_rk gb_flX12 gb_slX12 gb_nlX12 gb_llX12 gb_tlX12 cX12_no) = true := by decide +kernel
theorem gc_ck_X12_no : cl_X12_no.all (gc_ck gb_lkX12 gb_lnX12 [] 0) = true := by decide +kernel
theorem gm_8 (hl : l.stackTraces = false) : gc_MM l D cA ad A adV 8 := by
  refine ⟨gb_T8, fun h => absurd h (by decide +kernel), fun as σ o hg => ?_⟩
  have hM : ∀ mid ∈ ([] : List Nat), gc_MM l D cA ad A adV mid := (fun _ h => nomatch h)
  replace hg : c_X12_no as gaSH σ some = some o := hg
  unfold c_X12_no at hg
  split at hg
  · skip
    rename_i r0 a
    obtain ⟨hb, hg⟩ := gc_bif hg
    obtain rfl := Nat.eq_of_beq_eq_true hb
    obtain rfl := Option.some.inj hg
    exact gc_metG (maxL := 2) (lf := true) hl gc_pnX12 rfl gb_oX12 gc_rk_X12_no gb_nX12 hM gc_ck_X12_no (t_X12_no a σ _ (e_X12_no a σ)) gc_hoI rfl (fun v hv => by cases hv; exact Or.inl rfl) (Nat.le_of_ble_eq_true rfl) rfl
  · cases hg
theorem gc_rk_X12_in : cl_X12_in.all (gb_rk gb_flX12 gb_slX12 gb_nlX12 gb_llX12 gb_tlX12 cX12_in) = true := by decide +kernel
theorem gc_ck_X12_in : cl_X12_in.all (gc_ck gb_lkX12 gb_lnX12 [] 0) = true := by decide +kernel
theorem gm_10 (hl : l.stackTraces = false) : gc_MM l D cA ad A adV 10 := by
  refine ⟨gb_T10, fun h => absurd h (by decide +kernel), fun as σ o hg => ?_⟩
  have hM : ∀ mid ∈ ([] : List Nat), gc_MM l D cA ad A adV mid := (fun _ h => nomatch h)
  replace hg : c_X12_in as gaSH σ some = some o := hg
  unfold c_X12_in at hg
  split at hg
  · skip
    rename_i a b c
    obtain rfl := Option.some.inj hg
    exact gc_metP (maxL := 6) (lf := false) hl gc_pnX12 rfl gb_oX12 gc_rk_X12_in gb_nX12 hM gc_ck_X12_in (t_X12_in a b c σ _ (e_X12_in a b c σ)) gd_hoI rfl (fun v hv => by cases hv; exact Or.inr ⟨rfl, z_X12_in a b c σ⟩) (Nat.le_of_ble_eq_true rfl) rfl
  · cases hg
theorem gc_rk_X7_becomeEmpty : cl_X7_becomeEmpty.all (gb_rk gb_flX7 gb_slX7 gb_nlX7 gb_llX7 gb_tlX7 cX7_becomeEmpty) = true := by decide +kernel
theorem gc_ck_X7_becomeEmpty : cl_X7_becomeEmpty.all (gc_ck gb_lkX7 gb_lnX7 [] 0) = true := by decide +kernel
theorem gm_12 (hl : l.stackTraces = false) : gc_MM l D cA ad A adV 12 := by
  refine ⟨gb_T12, fun h => absurd h (by decide +kernel), fun as σ o hg => ?_⟩
  have hM : ∀ mid ∈ ([] : List Nat), gc_MM l D cA ad A adV mid := (fun _ h => nomatch h)
  replace hg : c_X7_becomeEmpty as gaSH σ some = some o := hg
  unfold c_X7_becomeEmpty at hg
  split at hg
  · skip
    rename_i r0
    rcases gc_bif2 hg with ⟨hb, hg⟩ | hg
    · skip
      obtain rfl := Nat.eq_of_beq_eq_true hb
      obtain rfl := Option.some.inj hg
      exact gc_metG (maxL := 1) (lf := true) hl gc_pnX7 rfl gb_oX7 gc_rk_X7_becomeEmpty gb_nX7 hM gc_ck_X7_becomeEmpty (t_X7_becomeEmpty_49 σ _ (e_X7_becomeEmpty_49 σ)) gc_hoV rfl (fun v hv => by cases hv; rfl) (Nat.le_of_ble_eq_true rfl) rfl
    · skip
      obtain ⟨hb, hg⟩ := gc_bif hg
      obtain rfl := Nat.eq_of_beq_eq_true hb
      obtain rfl := Option.some.inj hg
      exact gc_metG (maxL := 1) (lf := true) hl gc_pnX7 rfl gb_oX7 gc_rk_X7_becomeEmpty gb_nX7 hM gc_ck_X7_becomeEmpty (t_X7_becomeEmpty σ _ (e_X7_becomeEmpty σ)) gc_hoV rfl (fun v hv => by cases hv; rfl) (Nat.le_of_ble_eq_true rfl) rfl
  · cases hg
theorem gc_rk_X10_isLetter : cl_X10_isLetter.all (gb_rk gb_flX10 gb_slX10 gb_nlX10 gb_llX10 gb_tlX10 cX10_isLetter) = true := by decide +kernel
theorem gc_ck_X10_isLetter : cl_X10_isLetter.all (gc_ck gb_lkX10 gb_lnX10 [] 0) = true := by decide +kernel
theorem gm_14 (hl : l.stackTraces = false) : gc_MM l D cA ad A adV 14 := by
  refine ⟨gb_T14, fun h => absurd h (by decide +kernel), fun as σ o hg => ?_⟩
  have hM : ∀ mid ∈ ([] : List Nat), gc_MM l D cA ad A adV mid := (fun _ h => nomatch h)
  replace hg : c_X10_isLetter as gaSH σ some = some o := hg
  unfold c_X10_isLetter at hg
  split at hg
  · skip
    rename_i a
    obtain rfl := Option.some.inj hg
    exact gc_metP (maxL := 1) (lf := true) hl gc_pnX10 rfl gb_oX10 gc_rk_X10_isLetter gb_nX10 hM gc_ck_X10_isLetter (t_X10_isLetter a σ _ (e_X10_isLetter a σ)) gd_hoI rfl (fun v hv => by cases hv; exact Or.inr ⟨rfl, z_X10_isLetter a σ⟩) (Nat.le_of_ble_eq_true rfl) rfl
  · cases hg
theorem gc_rk_X10_isDigit : cl_X10_isDigit.all (gb_rk gb_flX10 gb_slX10 gb_nlX10 gb_llX10 gb_tlX10 cX10_isDigit) = true := by decide +kernel
theorem gc_ck_X10_isDigit : cl_X10_isDigit.all (gc_ck gb_lkX10 gb_lnX10 [] 0) = true := by decide +kernel
theorem gm_15 (hl : l.stackTraces = false) : gc_MM l D cA ad A adV 15 := by
  refine ⟨gb_T15, fun h => absurd h (by decide +kernel), fun as σ o hg => ?_⟩
  have hM : ∀ mid ∈ ([] : List Nat), gc_MM l D cA ad A adV mid := (fun _ h => nomatch h)
  replace hg : c_X10_isDigit as gaSH σ some = some o := hg
  unfold c_X10_isDigit at hg
  split at hg
  · skip
    rename_i a
    obtain rfl := Option.some.inj hg
    exact gc_metP (maxL := 1) (lf := true) hl gc_pnX10 rfl gb_oX10 gc_rk_X10_isDigit gb_nX10 hM gc_ck_X10_isDigit (t_X10_isDigit a σ _ (e_X10_isDigit a σ)) gd_hoI rfl (fun v hv => by cases hv; exact Or.inr ⟨rfl, z_X10_isDigit a σ⟩) (Nat.le_of_ble_eq_true rfl) rfl
  · cases hg
theorem gc_rk_X10_fail : cl_X10_fail.all (gb_rk gb_flX10 gb_slX10 gb_nlX10 gb_llX10 gb_tlX10 cX10_fail) = true := by decide +kernel
theorem gc_ck_X10_fail : cl_X10_fail.all (gc_ck gb_lkX10 gb_lnX10 [] 0) = true := by decide +kernel
theorem gm_22 (hl : l.stackTraces = false) : gc_MM l D cA ad A adV 22 := by
  refine ⟨gb_T22, fun h => absurd h (by decide +kernel), fun as σ o hg => ?_⟩
  have hM : ∀ mid ∈ ([] : List Nat), gc_MM l D cA ad A adV mid := (fun _ h => nomatch h)
  replace hg : c_X10_fail as gaSH σ some = some o := hg
  unfold c_X10_fail at hg
  split at hg
  · skip
    rename_i r0 a b
    obtain ⟨hb, hg⟩ := gc_bif hg
    obtain rfl := Nat.eq_of_beq_eq_true hb
    obtain rfl := Option.some.inj hg
    exact gc_metG (maxL := 3) (lf := true) hl gc_pnX10 rfl gb_oX10 gc_rk_X10_fail gb_nX10 hM gc_ck_X10_fail (t_X10_fail a b σ _ (e_X10_fail a b σ)) gc_hoI rfl (fun v hv => by cases hv; exact Or.inr ⟨rfl, z_X10_fail a b σ⟩) (Nat.le_of_ble_eq_true rfl) rfl
  · cases hg
theorem gc_rk_X11_hasBit : cl_X11_hasBit.all (gb_rk gb_flX11 gb_slX11 gb_nlX11 gb_llX11 gb_tlX11 cX11_hasBit) = true := by decide +kernel
theorem gc_ck_X11_hasBit : cl_X11_hasBit.all (gc_ck gb_lkX11 gb_lnX11 [] 0) = true := by decide +kernel
theorem gm_32 (hl : l.stackTraces = false) : gc_MM l D cA ad A adV 32 := by
  refine ⟨gb_T32, fun h => absurd h (by decide +kernel), fun as σ o hg => ?_⟩
  have hM : ∀ mid ∈ ([] : List Nat), gc_MM l D cA ad A adV mid := (fun _ h => nomatch h)
  replace hg : c_X11_hasBit as gaSH σ some = some o := hg
  unfold c_X11_hasBit at hg
  split at hg
  · skip
    rename_i a b
    obtain rfl := Option.some.inj hg
    exact gc_metP (maxL := 2) (lf := true) hl gc_pnX11 rfl gb_oX11 gc_rk_X11_hasBit gb_nX11 hM gc_ck_X11_hasBit (t_X11_hasBit a b σ _ (e_X11_hasBit a b σ)) gd_hoI rfl (fun v hv => by cases hv; exact Or.inr ⟨rfl, z_X11_hasBit a b σ⟩) (Nat.le_of_ble_eq_true rfl) rfl
  · cases hg
theorem gc_rk_X7_slots : cl_X7_slots.all (gb_rk gb_flX7 gb_slX7 gb_nlX7 gb_llX7 gb_tlX7 cX7_slots) = true := by decide +kernel
theorem gc_ck_X7_slots : cl_X7_slots.all (gc_ck gb_lkX7 gb_lnX7 [] 0) = true := by decide +kernel
theorem gm_38 (hl : l.stackTraces = false) : gc_MM l D cA ad A adV 38 := by
  refine ⟨gb_T38, fun h => absurd h (by decide +kernel), fun as σ o hg => ?_⟩
  have hM : ∀ mid ∈ ([] : List Nat), gc_MM l D cA ad A adV mid := (fun _ h => nomatch h)
  replace hg : c_X7_slots as gaSH σ some = some o := hg
  unfold c_X7_slots at hg
  split at hg
  · skip
    rename_i r0
    rcases gc_bif2 hg with ⟨hb, hg⟩ | hg
    · skip
      obtain rfl := Nat.eq_of_beq_eq_true hb
      obtain rfl := Option.some.inj hg
      exact gc_metP (maxL := 1) (lf := true) hl gc_pnX7 rfl gb_oX7 gc_rk_X7_slots gb_nX7 hM gc_ck_X7_slots (t_X7_slots_49 σ _ (e_X7_slots_49 σ)) gd_hoI rfl (fun v hv => by cases hv; exact Or.inl rfl) (Nat.le_of_ble_eq_true rfl) rfl
    · skip
      obtain ⟨hb, hg⟩ := gc_bif hg
      obtain rfl := Nat.eq_of_beq_eq_true hb
      obtain rfl := Option.some.inj hg
      exact gc_metP (maxL := 1) (lf := true) hl gc_pnX7 rfl gb_oX7 gc_rk_X7_slots gb_nX7 hM gc_ck_X7_slots (t_X7_slots σ _ (e_X7_slots σ)) gd_hoI rfl (fun v hv => by cases hv; exact Or.inl rfl) (Nat.le_of_ble_eq_true rfl) rfl
  · cases hg
theorem gc_rk_X7_hasTeacher : cl_X7_hasTeacher.all (gb_rk gb_flX7 gb_slX7 gb_nlX7 gb_llX7 gb_tlX7 cX7_hasTeacher) = true := by decide +kernel
theorem gc_ck_X7_hasTeacher : cl_X7_hasTeacher.all (gc_ck gb_lkX7 gb_lnX7 [] 0) = true := by decide +kernel
theorem gm_41 (hl : l.stackTraces = false) : gc_MM l D cA ad A adV 41 := by
  refine ⟨gb_T41, fun h => absurd h (by decide +kernel), fun as σ o hg => ?_⟩
  have hM : ∀ mid ∈ ([] : List Nat), gc_MM l D cA ad A adV mid := (fun _ h => nomatch h)
  replace hg : c_X7_hasTeacher as gaSH σ some = some o := hg
  unfold c_X7_hasTeacher at hg
  split at hg
  · skip
    rename_i r0 a
    rcases gc_bif2 hg with ⟨hb, hg⟩ | hg
    · skip
      obtain rfl := Nat.eq_of_beq_eq_true hb
      obtain rfl := Option.some.inj hg
      exact gc_metP (maxL := 2) (lf := true) hl gc_pnX7 rfl gb_oX7 gc_rk_X7_hasTeacher gb_nX7 hM gc_ck_X7_hasTeacher (t_X7_hasTeacher_49 a σ _ (e_X7_hasTeacher_49 a σ)) gd_hoI rfl (fun v hv => by cases hv; exact Or.inr ⟨rfl, z_X7_hasTeacher_49 a σ⟩) (Nat.le_of_ble_eq_true rfl) rfl
    · skip
      obtain ⟨hb, hg⟩ := gc_bif hg
      obtain rfl := Nat.eq_of_beq_eq_true hb
      obtain rfl := Option.some.inj hg
      exact gc_metP (maxL := 2) (lf := true) hl gc_pnX7 rfl gb_oX7 gc_rk_X7_hasTeacher gb_nX7 hM gc_ck_X7_hasTeacher (t_X7_hasTeacher a σ _ (e_X7_hasTeacher a σ)) gd_hoI rfl (fun v hv => by cases hv; exact Or.inr ⟨rfl, z_X7_hasTeacher a σ⟩) (Nat.le_of_ble_eq_true rfl) rfl
  · cases hg
theorem gc_rk_X7_dayOf : cl_X7_dayOf.all (gb_rk gb_flX7 gb_slX7 gb_nlX7 gb_llX7 gb_tlX7 cX7_dayOf) = true := by decide +kernel
theorem gc_ck_X7_dayOf : cl_X7_dayOf.all (gc_ck gb_lkX7 gb_lnX7 [] 0) = true := by decide +kernel
theorem gm_48 (hl : l.stackTraces = false) : gc_MM l D cA ad A adV 48 := by
  refine ⟨gb_T48, fun h => absurd h (by decide +kernel), fun as σ o hg => ?_⟩
  have hM : ∀ mid ∈ ([] : List Nat), gc_MM l D cA ad A adV mid := (fun _ h => nomatch h)
  replace hg : c_X7_dayOf as gaSH σ some = some o := hg
  unfold c_X7_dayOf at hg
  split at hg
  · skip
    rename_i r0 a
    obtain ⟨hb, hg⟩ := gc_bif hg
    obtain rfl := Nat.eq_of_beq_eq_true hb
    obtain ⟨q, hq, hg⟩ := gc_bind hg
    obtain rfl := Option.some.inj hg
    exact gc_metP (maxL := 2) (lf := true) hl gc_pnX7 rfl gb_oX7 gc_rk_X7_dayOf gb_nX7 hM gc_ck_X7_dayOf (t_X7_dayOf a σ _ hq) gd_hoI rfl (fun v hv => by cases hv; exact Or.inl rfl) (Nat.le_of_ble_eq_true rfl) rfl
  · cases hg
theorem gc_rk_X1_forget : cl_X1_forget.all (gb_rk gb_flX1 gb_slX1 gb_nlX1 gb_llX1 gb_tlX1 cX1_forget) = true := by decide +kernel
theorem gc_ck_X1_forget : cl_X1_forget.all (gc_ck gb_lkX1 gb_lnX1 [] 0) = true := by decide +kernel
theorem gm_53 (hl : l.stackTraces = false) : gc_MM l D cA ad A adV 53 := by
  refine ⟨gb_T53, fun h => absurd h (by decide +kernel), fun as σ o hg => ?_⟩
  have hM : ∀ mid ∈ ([] : List Nat), gc_MM l D cA ad A adV mid := (fun _ h => nomatch h)
  replace hg : c_X1_forget as gaSH σ some = some o := hg
  unfold c_X1_forget at hg
  split at hg
  · skip
    rename_i r0
    obtain ⟨hb, hg⟩ := gc_bif hg
    obtain rfl := Nat.eq_of_beq_eq_true hb
    obtain rfl := Option.some.inj hg
    exact gc_metG (maxL := 1) (lf := true) hl gc_pnX1 rfl gb_oX1 gc_rk_X1_forget gb_nX1 hM gc_ck_X1_forget (t_X1_forget σ _ (e_X1_forget σ)) gc_hoV rfl (fun v hv => by cases hv; rfl) (Nat.le_of_ble_eq_true rfl) rfl
  · cases hg
theorem gc_rk_X12_byteAt : cl_X12_byteAt.all (gb_rk gb_flX12 gb_slX12 gb_nlX12 gb_llX12 gb_tlX12 cX12_byteAt) = true := by decide +kernel
theorem gc_ck_X12_byteAt : cl_X12_byteAt.all (gc_ck gb_lkX12 gb_lnX12 [] 0) = true := by decide +kernel
theorem gm_55 (hl : l.stackTraces = false) : gc_MM l D cA ad A adV 55 := by
  refine ⟨gb_T55, fun h => absurd h (by decide +kernel), fun as σ o hg => ?_⟩
  have hM : ∀ mid ∈ ([] : List Nat), gc_MM l D cA ad A adV mid := (fun _ h => nomatch h)
  replace hg : c_X12_byteAt as gaSH σ some = some o := hg
  unfold c_X12_byteAt at hg
  split at hg
  · skip
    rename_i r0 a
    obtain ⟨hb, hg⟩ := gc_bif hg
    obtain rfl := Nat.eq_of_beq_eq_true hb
    obtain ⟨q, hq, hg⟩ := gc_bind hg
    obtain rfl := Option.some.inj hg
    exact gc_metP (maxL := 2) (lf := true) hl gc_pnX12 rfl gb_oX12 gc_rk_X12_byteAt gb_nX12 hM gc_ck_X12_byteAt (t_X12_byteAt a σ _ hq) gd_hoI rfl (fun v hv => by cases hv; exact Or.inl rfl) (Nat.le_of_ble_eq_true rfl) rfl
  · cases hg
theorem gc_rk_X12_wrong : cl_X12_wrong.all (gb_rk gb_flX12 gb_slX12 gb_nlX12 gb_llX12 gb_tlX12 cX12_wrong) = true := by decide +kernel
theorem gc_ck_X12_wrong : cl_X12_wrong.all (gc_ck gb_lkX12 gb_lnX12 [] 0) = true := by decide +kernel
theorem gm_62 (hl : l.stackTraces = false) : gc_MM l D cA ad A adV 62 := by
  refine ⟨gb_T62, fun h => absurd h (by decide +kernel), fun as σ o hg => ?_⟩
  have hM : ∀ mid ∈ ([] : List Nat), gc_MM l D cA ad A adV mid := (fun _ h => nomatch h)
  replace hg : c_X12_wrong as gaSH σ some = some o := hg
  unfold c_X12_wrong at hg
  split at hg
  · skip
    rename_i r0 a
    obtain ⟨hb, hg⟩ := gc_bif hg
    obtain rfl := Nat.eq_of_beq_eq_true hb
    obtain rfl := Option.some.inj hg
    exact gc_metG (maxL := 2) (lf := true) hl gc_pnX12 rfl gb_oX12 gc_rk_X12_wrong gb_nX12 hM gc_ck_X12_wrong (t_X12_wrong a σ _ (e_X12_wrong a σ)) gc_hoV rfl (fun v hv => by cases hv; rfl) (Nat.le_of_ble_eq_true rfl) rfl
  · cases hg
theorem gc_rk_X12_has : cl_X12_has.all (gb_rk gb_flX12 gb_slX12 gb_nlX12 gb_llX12 gb_tlX12 cX12_has) = true := by decide +kernel
theorem gc_ck_X12_has : cl_X12_has.all (gc_ck gb_lkX12 gb_lnX12 [] 0) = true := by decide +kernel
theorem gm_69 (hl : l.stackTraces = false) : gc_MM l D cA ad A adV 69 := by
  refine ⟨gb_T69, fun h => absurd h (by decide +kernel), fun as σ o hg => ?_⟩
  have hM : ∀ mid ∈ ([] : List Nat), gc_MM l D cA ad A adV mid := (fun _ h => nomatch h)
  replace hg : c_X12_has as gaSH σ some = some o := hg
  unfold c_X12_has at hg
  split at hg
  · skip
    rename_i a b
    obtain rfl := Option.some.inj hg
    exact gc_metP (maxL := 2) (lf := true) hl gc_pnX12 rfl gb_oX12 gc_rk_X12_has gb_nX12 hM gc_ck_X12_has (t_X12_has a b σ _ (e_X12_has a b σ)) gd_hoI rfl (fun v hv => by cases hv; exact Or.inr ⟨rfl, z_X12_has a b σ⟩) (Nat.le_of_ble_eq_true rfl) rfl
  · cases hg
theorem gc_rk_X12_isThere : cl_X12_isThere.all (gb_rk gb_flX12 gb_slX12 gb_nlX12 gb_llX12 gb_tlX12 cX12_isThere) = true := by decide +kernel
theorem gc_ck_X12_isThere : cl_X12_isThere.all (gc_ck gb_lkX12 gb_lnX12 [] 0) = true := by decide +kernel
theorem gm_71 (hl : l.stackTraces = false) : gc_MM l D cA ad A adV 71 := by
  refine ⟨gb_T71, fun h => absurd h (by decide +kernel), fun as σ o hg => ?_⟩
  have hM : ∀ mid ∈ ([] : List Nat), gc_MM l D cA ad A adV mid := (fun _ h => nomatch h)
  replace hg : c_X12_isThere as gaSH σ some = some o := hg
  unfold c_X12_isThere at hg
  split at hg
  · skip
    rename_i r0 a b c
    obtain ⟨hb, hg⟩ := gc_bif hg
    obtain rfl := Nat.eq_of_beq_eq_true hb
    obtain ⟨q, hq, hg⟩ := gc_bind hg
    obtain rfl := Option.some.inj hg
    exact gc_metP (maxL := 6) (lf := true) hl gc_pnX12 rfl gb_oX12 gc_rk_X12_isThere gb_nX12 hM gc_ck_X12_isThere (t_X12_isThere a b c σ _ hq) gd_hoI rfl (fun v hv => by cases hv; exact Or.inr ⟨rfl, z_X12_isThere a b c σ _ hq⟩) (Nat.le_of_ble_eq_true rfl) rfl
  · cases hg
theorem gc_rk_X12_firstly : cl_X12_firstly.all (gb_rk gb_flX12 gb_slX12 gb_nlX12 gb_llX12 gb_tlX12 cX12_firstly) = true := by decide +kernel
theorem gc_ck_X12_firstly : cl_X12_firstly.all (gc_ck gb_lkX12 gb_lnX12 [] 0) = true := by decide +kernel
theorem gm_73 (hl : l.stackTraces = false) : gc_MM l D cA ad A adV 73 := by
  refine ⟨gb_T73, fun h => absurd h (by decide +kernel), fun as σ o hg => ?_⟩
  have hM : ∀ mid ∈ ([] : List Nat), gc_MM l D cA ad A adV mid := (fun _ h => nomatch h)
  replace hg : c_X12_firstly as gaSH σ some = some o := hg
  unfold c_X12_firstly at hg
  split at hg
  · skip
    rename_i r0 a
    obtain ⟨hb, hg⟩ := gc_bif hg
    obtain rfl := Nat.eq_of_beq_eq_true hb
    obtain ⟨q, hq, hg⟩ := gc_bind hg
    obtain rfl := Option.some.inj hg
    exact gc_metG (maxL := 2) (lf := true) hl gc_pnX12 rfl gb_oX12 gc_rk_X12_firstly gb_nX12 hM gc_ck_X12_firstly (t_X12_firstly a σ _ hq) gc_hoV rfl (fun v hv => by cases hv; rfl) (Nat.le_of_ble_eq_true rfl) rfl
  · cases hg
theorem gc_rk_X1_baseOf : cl_X1_baseOf.all (gb_rk gb_flX1 gb_slX1 gb_nlX1 gb_llX1 gb_tlX1 cX1_baseOf) = true := by decide +kernel
theorem gc_ck_X1_baseOf : cl_X1_baseOf.all (gc_ck gb_lkX1 gb_lnX1 [] 0) = true := by decide +kernel
theorem gm_76 (hl : l.stackTraces = false) : gc_MM l D cA ad A adV 76 := by
  refine ⟨gb_T76, fun h => absurd h (by decide +kernel), fun as σ o hg => ?_⟩
  have hM : ∀ mid ∈ ([] : List Nat), gc_MM l D cA ad A adV mid := (fun _ h => nomatch h)
  replace hg : c_X1_baseOf as gaSH σ some = some o := hg
  unfold c_X1_baseOf at hg
  split at hg
  · skip
    rename_i r0 a
    obtain ⟨hb, hg⟩ := gc_bif hg
    obtain rfl := Nat.eq_of_beq_eq_true hb
    obtain ⟨q, hq, hg⟩ := gc_bind hg
    obtain rfl := Option.some.inj hg
    exact gc_metP (maxL := 2) (lf := true) hl gc_pnX1 rfl gb_oX1 gc_rk_X1_baseOf gb_nX1 hM gc_ck_X1_baseOf (t_X1_baseOf a σ _ hq) gd_hoI rfl (fun v hv => by cases hv; exact Or.inl rfl) (Nat.le_of_ble_eq_true rfl) rfl
  · cases hg
theorem gc_rk_X1_keepMarked : cl_X1_keepMarked.all (gb_rk gb_flX1 gb_slX1 gb_nlX1 gb_llX1 gb_tlX1 cX1_keepMarked) = true := by decide +kernel
theorem gc_ck_X1_keepMarked : cl_X1_keepMarked.all (gc_ck gb_lkX1 gb_lnX1 [] 0) = true := by decide +kernel
theorem gm_78 (hl : l.stackTraces = false) : gc_MM l D cA ad A adV 78 := by
  refine ⟨gb_T78, fun h => absurd h (by decide +kernel), fun as σ o hg => ?_⟩
  have hM : ∀ mid ∈ ([] : List Nat), gc_MM l D cA ad A adV mid := (fun _ h => nomatch h)
  replace hg : c_X1_keepMarked as gaSH σ some = some o := hg
  unfold c_X1_keepMarked at hg
  split at hg
  · skip
    rename_i r0
    obtain ⟨hb, hg⟩ := gc_bif hg
    obtain rfl := Nat.eq_of_beq_eq_true hb
    obtain ⟨q, hq, hg⟩ := gc_bind hg
    obtain rfl := Option.some.inj hg
    exact gc_metG (maxL := 1) (lf := true) hl gc_pnX1 rfl gb_oX1 gc_rk_X1_keepMarked gb_nX1 hM gc_ck_X1_keepMarked (t_X1_keepMarked σ _ hq) gc_hoV rfl (fun v hv => by cases hv; rfl) (Nat.le_of_ble_eq_true rfl) rfl
  · cases hg
theorem gc_rk_X9_wordOf : cl_X9_wordOf.all (gb_rk gb_flX9 gb_slX9 gb_nlX9 gb_llX9 gb_tlX9 cX9_wordOf) = true := by decide +kernel
theorem gc_ck_X9_wordOf : cl_X9_wordOf.all (gc_ck gb_lkX9 gb_lnX9 [] 0) = true := by decide +kernel
theorem gm_80 (hl : l.stackTraces = false) : gc_MM l D cA ad A adV 80 := by
  refine ⟨gb_T80, fun h => absurd h (by decide +kernel), fun as σ o hg => ?_⟩
  have hM : ∀ mid ∈ ([] : List Nat), gc_MM l D cA ad A adV mid := (fun _ h => nomatch h)
  replace hg : c_X9_wordOf as gaSH σ some = some o := hg
  unfold c_X9_wordOf at hg
  split at hg
  · skip
    rename_i a
    obtain rfl := Option.some.inj hg
    exact gc_metP (maxL := 1) (lf := true) hl gc_pnX9 rfl gb_oX9 gc_rk_X9_wordOf gb_nX9 hM gc_ck_X9_wordOf (t_X9_wordOf a σ _ (e_X9_wordOf a σ)) gd_hoA rfl (fun v hv => by cases hv; exact ⟨_, rfl⟩) (Nat.le_of_ble_eq_true rfl) rfl
  · cases hg
theorem gc_rk_X9_numbersOf : cl_X9_numbersOf.all (gb_rk gb_flX9 gb_slX9 gb_nlX9 gb_llX9 gb_tlX9 cX9_numbersOf) = true := by decide +kernel
theorem gc_ck_X9_numbersOf : cl_X9_numbersOf.all (gc_ck gb_lkX9 gb_lnX9 [] 0) = true := by decide +kernel
theorem gm_82 (hl : l.stackTraces = false) : gc_MM l D cA ad A adV 82 := by
  refine ⟨gb_T82, fun h => absurd h (by decide +kernel), fun as σ o hg => ?_⟩
  have hM : ∀ mid ∈ ([] : List Nat), gc_MM l D cA ad A adV mid := (fun _ h => nomatch h)
  replace hg : c_X9_numbersOf as gaSH σ some = some o := hg
  unfold c_X9_numbersOf at hg
  split at hg
  · skip
    rename_i a
    obtain rfl := Option.some.inj hg
    exact gc_metP (maxL := 1) (lf := true) hl gc_pnX9 rfl gb_oX9 gc_rk_X9_numbersOf gb_nX9 hM gc_ck_X9_numbersOf (t_X9_numbersOf a σ _ (e_X9_numbersOf a σ)) gd_hoI rfl (fun v hv => by cases hv; exact Or.inl rfl) (Nat.le_of_ble_eq_true rfl) rfl
  · cases hg
theorem gc_rk_X7_hasDay : cl_X7_hasDay.all (gb_rk gb_flX7 gb_slX7 gb_nlX7 gb_llX7 gb_tlX7 cX7_hasDay) = true := by decide +kernel
theorem gc_ck_X7_hasDay : cl_X7_hasDay.all (gc_ck gb_lkX7 gb_lnX7 [] 0) = true := by decide +kernel
theorem gm_84 (hl : l.stackTraces = false) : gc_MM l D cA ad A adV 84 := by
  refine ⟨gb_T84, fun h => absurd h (by decide +kernel), fun as σ o hg => ?_⟩
  have hM : ∀ mid ∈ ([] : List Nat), gc_MM l D cA ad A adV mid := (fun _ h => nomatch h)
  replace hg : c_X7_hasDay as gaSH σ some = some o := hg
  unfold c_X7_hasDay at hg
  split at hg
  · skip
    rename_i r0 a
    obtain ⟨hb, hg⟩ := gc_bif hg
    obtain rfl := Nat.eq_of_beq_eq_true hb
    obtain rfl := Option.some.inj hg
    exact gc_metP (maxL := 2) (lf := true) hl gc_pnX7 rfl gb_oX7 gc_rk_X7_hasDay gb_nX7 hM gc_ck_X7_hasDay (t_X7_hasDay a σ _ (e_X7_hasDay a σ)) gd_hoI rfl (fun v hv => by cases hv; exact Or.inr ⟨rfl, z_X7_hasDay a σ⟩) (Nat.le_of_ble_eq_true rfl) rfl
  · cases hg
theorem gc_rk_X7_hasLesson : cl_X7_hasLesson.all (gb_rk gb_flX7 gb_slX7 gb_nlX7 gb_llX7 gb_tlX7 cX7_hasLesson) = true := by decide +kernel
theorem gc_ck_X7_hasLesson : cl_X7_hasLesson.all (gc_ck gb_lkX7 gb_lnX7 [] 0) = true := by decide +kernel
theorem gm_87 (hl : l.stackTraces = false) : gc_MM l D cA ad A adV 87 := by
  refine ⟨gb_T87, fun h => absurd h (by decide +kernel), fun as σ o hg => ?_⟩
  have hM : ∀ mid ∈ ([] : List Nat), gc_MM l D cA ad A adV mid := (fun _ h => nomatch h)
  replace hg : c_X7_hasLesson as gaSH σ some = some o := hg
  unfold c_X7_hasLesson at hg
  split at hg
  · skip
    rename_i r0 a
    obtain ⟨hb, hg⟩ := gc_bif hg
    obtain rfl := Nat.eq_of_beq_eq_true hb
    obtain rfl := Option.some.inj hg
    exact gc_metP (maxL := 2) (lf := true) hl gc_pnX7 rfl gb_oX7 gc_rk_X7_hasLesson gb_nX7 hM gc_ck_X7_hasLesson (t_X7_hasLesson a σ _ (e_X7_hasLesson a σ)) gd_hoI rfl (fun v hv => by cases hv; exact Or.inr ⟨rfl, z_X7_hasLesson a σ⟩) (Nat.le_of_ble_eq_true rfl) rfl
  · cases hg
theorem gc_rk_X7_hasRoom : cl_X7_hasRoom.all (gb_rk gb_flX7 gb_slX7 gb_nlX7 gb_llX7 gb_tlX7 cX7_hasRoom) = true := by decide +kernel
theorem gc_ck_X7_hasRoom : cl_X7_hasRoom.all (gc_ck gb_lkX7 gb_lnX7 [] 0) = true := by decide +kernel
theorem gm_104 (hl : l.stackTraces = false) : gc_MM l D cA ad A adV 104 := by
  refine ⟨gb_T104, fun h => absurd h (by decide +kernel), fun as σ o hg => ?_⟩
  have hM : ∀ mid ∈ ([] : List Nat), gc_MM l D cA ad A adV mid := (fun _ h => nomatch h)
  replace hg : c_X7_hasRoom as gaSH σ some = some o := hg
  unfold c_X7_hasRoom at hg
  split at hg
  · skip
    rename_i r0 a
    obtain ⟨hb, hg⟩ := gc_bif hg
    obtain rfl := Nat.eq_of_beq_eq_true hb
    obtain rfl := Option.some.inj hg
    exact gc_metP (maxL := 2) (lf := true) hl gc_pnX7 rfl gb_oX7 gc_rk_X7_hasRoom gb_nX7 hM gc_ck_X7_hasRoom (t_X7_hasRoom a σ _ (e_X7_hasRoom a σ)) gd_hoI rfl (fun v hv => by cases hv; exact Or.inr ⟨rfl, z_X7_hasRoom a σ⟩) (Nat.le_of_ble_eq_true rfl) rfl
  · cases hg
theorem gc_rk_X12_copyRow : cl_X12_copyRow.all (gb_rk gb_flX12 gb_slX12 gb_nlX12 gb_llX12 gb_tlX12 cX12_copyRow) = true := by decide +kernel
theorem gc_ck_X12_copyRow : cl_X12_copyRow.all (gc_ck gb_lkX12 gb_lnX12 [] 0) = true := by decide +kernel
theorem gm_125 (hl : l.stackTraces = false) : gc_MM l D cA ad A adV 125 := by
  refine ⟨gb_T125, fun h => absurd h (by decide +kernel), fun as σ o hg => ?_⟩
  have hM : ∀ mid ∈ ([] : List Nat), gc_MM l D cA ad A adV mid := (fun _ h => nomatch h)
  replace hg : c_X12_copyRow as gaSH σ some = some o := hg
  unfold c_X12_copyRow at hg
  split at hg
  · skip
    rename_i r0 r1
    rcases gc_bif2 hg with ⟨hb, hg⟩ | hg
    · skip
      obtain ⟨hb0, hb1⟩ := Bool.and_eq_true_iff.mp hb
      obtain rfl := Nat.eq_of_beq_eq_true hb0
      obtain rfl := Nat.eq_of_beq_eq_true hb1
      obtain ⟨q, hq, hg⟩ := gc_bind hg
      obtain rfl := Option.some.inj hg
      exact gc_metG (maxL := 3) (lf := true) hl gc_pnX12 rfl gb_oX12 gc_rk_X12_copyRow gb_nX12 hM gc_ck_X12_copyRow (t_X12_copyRow_75_76 σ _ hq) gc_hoV rfl (fun v hv => by cases hv; rfl) (Nat.le_of_ble_eq_true rfl) rfl
    · skip
      obtain ⟨hb, hg⟩ := gc_bif hg
      obtain ⟨hb0, hb1⟩ := Bool.and_eq_true_iff.mp hb
      obtain rfl := Nat.eq_of_beq_eq_true hb0
      obtain rfl := Nat.eq_of_beq_eq_true hb1
      obtain ⟨q, hq, hg⟩ := gc_bind hg
      obtain rfl := Option.some.inj hg
      exact gc_metG (maxL := 3) (lf := true) hl gc_pnX12 rfl gb_oX12 gc_rk_X12_copyRow gb_nX12 hM gc_ck_X12_copyRow (t_X12_copyRow_76_75 σ _ hq) gc_hoV rfl (fun v hv => by cases hv; rfl) (Nat.le_of_ble_eq_true rfl) rfl
  · cases hg
theorem gc_rk_X12_push : cl_X12_push.all (gb_rk gb_flX12 gb_slX12 gb_nlX12 gb_llX12 gb_tlX12 cX12_push) = true := by decide +kernel
theorem gc_ck_X12_push : cl_X12_push.all (gc_ck gb_lkX12 gb_lnX12 [] 0) = true := by decide +kernel
theorem gm_126 (hl : l.stackTraces = false) : gc_MM l D cA ad A adV 126 := by
  refine ⟨gb_T126, fun h => absurd h (by decide +kernel), fun as σ o hg => ?_⟩
  have hM : ∀ mid ∈ ([] : List Nat), gc_MM l D cA ad A adV mid := (fun _ h => nomatch h)
  replace hg : c_X12_push as gaSH σ some = some o := hg
  unfold c_X12_push at hg
  split at hg
  · skip
    rename_i r0
    obtain ⟨hb, hg⟩ := gc_bif hg
    obtain rfl := Nat.eq_of_beq_eq_true hb
    obtain ⟨q, hq, hg⟩ := gc_bind hg
    obtain rfl := Option.some.inj hg
    exact gc_metG (maxL := 2) (lf := true) hl gc_pnX12 rfl gb_oX12 gc_rk_X12_push gb_nX12 hM gc_ck_X12_push (t_X12_push σ _ hq) gc_hoV rfl (fun v hv => by cases hv; rfl) (Nat.le_of_ble_eq_true rfl) rfl
  · cases hg
theorem gc_rk_X12_isOpen : cl_X12_isOpen.all (gb_rk gb_flX12 gb_slX12 gb_nlX12 gb_llX12 gb_tlX12 cX12_isOpen) = true := by decide +kernel
theorem gc_ck_X12_isOpen : cl_X12_isOpen.all (gc_ck gb_lkX12 gb_lnX12 [] 0) = true := by decide +kernel
theorem gm_130 (hl : l.stackTraces = false) : gc_MM l D cA ad A adV 130 := by
  refine ⟨gb_T130, fun h => absurd h (by decide +kernel), fun as σ o hg => ?_⟩
  have hM : ∀ mid ∈ ([] : List Nat), gc_MM l D cA ad A adV mid := (fun _ h => nomatch h)
  replace hg : c_X12_isOpen as gaSH σ some = some o := hg
  unfold c_X12_isOpen at hg
  split at hg
  · skip
    rename_i r0 a
    obtain ⟨hb, hg⟩ := gc_bif hg
    obtain rfl := Nat.eq_of_beq_eq_true hb
    obtain ⟨q, hq, hg⟩ := gc_bind hg
    obtain rfl := Option.some.inj hg
    exact gc_metP (maxL := 2) (lf := true) hl gc_pnX12 rfl gb_oX12 gc_rk_X12_isOpen gb_nX12 hM gc_ck_X12_isOpen (t_X12_isOpen a σ _ hq) gd_hoI rfl (fun v hv => by cases hv; exact Or.inr ⟨rfl, z_X12_isOpen a σ _ hq⟩) (Nat.le_of_ble_eq_true rfl) rfl
  · cases hg
theorem gc_rk_X12_lessonWith : cl_X12_lessonWith.all (gb_rk gb_flX12 gb_slX12 gb_nlX12 gb_llX12 gb_tlX12 cX12_lessonWith) = true := by decide +kernel
theorem gc_ck_X12_lessonWith : cl_X12_lessonWith.all (gc_ck gb_lkX12 gb_lnX12 [] 0) = true := by decide +kernel
theorem gm_132 (hl : l.stackTraces = false) : gc_MM l D cA ad A adV 132 := by
  refine ⟨gb_T132, fun h => absurd h (by decide +kernel), fun as σ o hg => ?_⟩
  have hM : ∀ mid ∈ ([] : List Nat), gc_MM l D cA ad A adV mid := (fun _ h => nomatch h)
  replace hg : c_X12_lessonWith as gaSH σ some = some o := hg
  unfold c_X12_lessonWith at hg
  split at hg
  · skip
    rename_i r0 a b c d e
    obtain ⟨hb, hg⟩ := gc_bif hg
    obtain rfl := Nat.eq_of_beq_eq_true hb
    obtain ⟨q, hq, hg⟩ := gc_bind hg
    obtain rfl := Option.some.inj hg
    exact gc_metP (maxL := 7) (lf := true) hl gc_pnX12 rfl gb_oX12 gc_rk_X12_lessonWith gb_nX12 hM gc_ck_X12_lessonWith (t_X12_lessonWith a b c d e σ _ hq) gd_hoI rfl (fun v hv => by cases hv; exact Or.inl rfl) (Nat.le_of_ble_eq_true rfl) rfl
  · cases hg
theorem gc_rk_X12_slots : cl_X12_slots.all (gb_rk gb_flX12 gb_slX12 gb_nlX12 gb_llX12 gb_tlX12 cX12_slots) = true := by decide +kernel
theorem gc_ck_X12_slots : cl_X12_slots.all (gc_ck gb_lkX12 gb_lnX12 [] 0) = true := by decide +kernel
theorem gm_134 (hl : l.stackTraces = false) : gc_MM l D cA ad A adV 134 := by
  refine ⟨gb_T134, fun h => absurd h (by decide +kernel), fun as σ o hg => ?_⟩
  have hM : ∀ mid ∈ ([] : List Nat), gc_MM l D cA ad A adV mid := (fun _ h => nomatch h)
  replace hg : c_X12_slots as gaSH σ some = some o := hg
  unfold c_X12_slots at hg
  split at hg
  · skip
    rename_i r0
    obtain ⟨hb, hg⟩ := gc_bif hg
    obtain rfl := Nat.eq_of_beq_eq_true hb
    obtain rfl := Option.some.inj hg
    exact gc_metP (maxL := 1) (lf := true) hl gc_pnX12 rfl gb_oX12 gc_rk_X12_slots gb_nX12 hM gc_ck_X12_slots (t_X12_slots σ _ (e_X12_slots σ)) gd_hoI rfl (fun v hv => by cases hv; exact Or.inl rfl) (Nat.le_of_ble_eq_true rfl) rfl
  · cases hg
theorem gc_rk_X12_ofClass : cl_X12_ofClass.all (gb_rk gb_flX12 gb_slX12 gb_nlX12 gb_llX12 gb_tlX12 cX12_ofClass) = true := by decide +kernel
theorem gc_ck_X12_ofClass : cl_X12_ofClass.all (gc_ck gb_lkX12 gb_lnX12 [] 0) = true := by decide +kernel
theorem gm_136 (hl : l.stackTraces = false) : gc_MM l D cA ad A adV 136 := by
  refine ⟨gb_T136, fun h => absurd h (by decide +kernel), fun as σ o hg => ?_⟩
  have hM : ∀ mid ∈ ([] : List Nat), gc_MM l D cA ad A adV mid := (fun _ h => nomatch h)
  replace hg : c_X12_ofClass as gaSH σ some = some o := hg
  unfold c_X12_ofClass at hg
  split at hg
  · skip
    rename_i r0 a b
    obtain ⟨hb, hg⟩ := gc_bif hg
    obtain rfl := Nat.eq_of_beq_eq_true hb
    obtain ⟨q, hq, hg⟩ := gc_bind hg
    obtain rfl := Option.some.inj hg
    exact gc_metP (maxL := 4) (lf := true) hl gc_pnX12 rfl gb_oX12 gc_rk_X12_ofClass gb_nX12 hM gc_ck_X12_ofClass (t_X12_ofClass a b σ _ hq) gd_hoI rfl (fun v hv => by cases hv; exact Or.inl rfl) (Nat.le_of_ble_eq_true rfl) rfl
  · cases hg
theorem gc_rk_X12_dayOf : cl_X12_dayOf.all (gb_rk gb_flX12 gb_slX12 gb_nlX12 gb_llX12 gb_tlX12 cX12_dayOf) = true := by decide +kernel
theorem gc_ck_X12_dayOf : cl_X12_dayOf.all (gc_ck gb_lkX12 gb_lnX12 [] 0) = true := by decide +kernel
theorem gm_138 (hl : l.stackTraces = false) : gc_MM l D cA ad A adV 138 := by
  refine ⟨gb_T138, fun h => absurd h (by decide +kernel), fun as σ o hg => ?_⟩
  have hM : ∀ mid ∈ ([] : List Nat), gc_MM l D cA ad A adV mid := (fun _ h => nomatch h)
  replace hg : c_X12_dayOf as gaSH σ some = some o := hg
  unfold c_X12_dayOf at hg
  split at hg
  · skip
    rename_i r0 a
    obtain ⟨hb, hg⟩ := gc_bif hg
    obtain rfl := Nat.eq_of_beq_eq_true hb
    obtain ⟨q, hq, hg⟩ := gc_bind hg
    obtain rfl := Option.some.inj hg
    exact gc_metP (maxL := 2) (lf := true) hl gc_pnX12 rfl gb_oX12 gc_rk_X12_dayOf gb_nX12 hM gc_ck_X12_dayOf (t_X12_dayOf a σ _ hq) gd_hoI rfl (fun v hv => by cases hv; exact Or.inl rfl) (Nat.le_of_ble_eq_true rfl) rfl
  · cases hg
theorem gc_rk_X12_isOnWay : cl_X12_isOnWay.all (gb_rk gb_flX12 gb_slX12 gb_nlX12 gb_llX12 gb_tlX12 cX12_isOnWay) = true := by decide +kernel
theorem gc_ck_X12_isOnWay : cl_X12_isOnWay.all (gc_ck gb_lkX12 gb_lnX12 [] 0) = true := by decide +kernel
theorem gm_144 (hl : l.stackTraces = false) : gc_MM l D cA ad A adV 144 := by
  refine ⟨gb_T144, fun h => absurd h (by decide +kernel), fun as σ o hg => ?_⟩
  have hM : ∀ mid ∈ ([] : List Nat), gc_MM l D cA ad A adV mid := (fun _ h => nomatch h)
  replace hg : c_X12_isOnWay as gaSH σ some = some o := hg
  unfold c_X12_isOnWay at hg
  split at hg
  · skip
    rename_i r0 a b
    obtain ⟨hb, hg⟩ := gc_bif hg
    obtain rfl := Nat.eq_of_beq_eq_true hb
    obtain ⟨q, hq, hg⟩ := gc_bind hg
    obtain rfl := Option.some.inj hg
    exact gc_metP (maxL := 5) (lf := true) hl gc_pnX12 rfl gb_oX12 gc_rk_X12_isOnWay gb_nX12 hM gc_ck_X12_isOnWay (t_X12_isOnWay a b σ _ hq) gd_hoI rfl (fun v hv => by cases hv; exact Or.inr ⟨rfl, z_X12_isOnWay a b σ _ hq⟩) (Nat.le_of_ble_eq_true rfl) rfl
  · cases hg
theorem gc_rk_X12_firstBy : cl_X12_firstBy.all (gb_rk gb_flX12 gb_slX12 gb_nlX12 gb_llX12 gb_tlX12 cX12_firstBy) = true := by decide +kernel
theorem gc_ck_X12_firstBy : cl_X12_firstBy.all (gc_ck gb_lkX12 gb_lnX12 [] 0) = true := by decide +kernel
theorem gm_147 (hl : l.stackTraces = false) : gc_MM l D cA ad A adV 147 := by
  refine ⟨gb_T147, fun h => absurd h (by decide +kernel), fun as σ o hg => ?_⟩
  have hM : ∀ mid ∈ ([] : List Nat), gc_MM l D cA ad A adV mid := (fun _ h => nomatch h)
  replace hg : c_X12_firstBy as gaSH σ some = some o := hg
  unfold c_X12_firstBy at hg
  split at hg
  · skip
    rename_i r0 a
    obtain ⟨hb, hg⟩ := gc_bif hg
    obtain rfl := Nat.eq_of_beq_eq_true hb
    obtain ⟨q, hq, hg⟩ := gc_bind hg
    obtain rfl := Option.some.inj hg
    exact gc_metP (maxL := 4) (lf := true) hl gc_pnX12 rfl gb_oX12 gc_rk_X12_firstBy gb_nX12 hM gc_ck_X12_firstBy (t_X12_firstBy a σ _ hq) gd_hoI rfl (fun v hv => by cases hv; exact Or.inl rfl) (Nat.le_of_ble_eq_true rfl) rfl
  · cases hg
theorem gc_rk_X12_opens : cl_X12_opens.all (gb_rk gb_flX12 gb_slX12 gb_nlX12 gb_llX12 gb_tlX12 cX12_opens) = true := by decide +kernel
theorem gc_ck_X12_opens : cl_X12_opens.all (gc_ck gb_lkX12 gb_lnX12 [] 0) = true := by decide +kernel
theorem gm_160 (hl : l.stackTraces = false) : gc_MM l D cA ad A adV 160 := by
  refine ⟨gb_T160, fun h => absurd h (by decide +kernel), fun as σ o hg => ?_⟩
  have hM : ∀ mid ∈ ([] : List Nat), gc_MM l D cA ad A adV mid := (fun _ h => nomatch h)
  replace hg : c_X12_opens as gaSH σ some = some o := hg
  unfold c_X12_opens at hg
  split at hg
  · skip
    rename_i r0 a
    obtain ⟨hb, hg⟩ := gc_bif hg
    obtain rfl := Nat.eq_of_beq_eq_true hb
    obtain ⟨q, hq, hg⟩ := gc_bind hg
    obtain rfl := Option.some.inj hg
    exact gc_metG (maxL := 2) (lf := true) hl gc_pnX12 rfl gb_oX12 gc_rk_X12_opens gb_nX12 hM gc_ck_X12_opens (t_X12_opens a σ _ hq) gc_hoV rfl (fun v hv => by cases hv; rfl) (Nat.le_of_ble_eq_true rfl) rfl
  · cases hg
theorem gc_rk_X12_swaps : cl_X12_swaps.all (gb_rk gb_flX12 gb_slX12 gb_nlX12 gb_llX12 gb_tlX12 cX12_swaps) = true := by decide +kernel
theorem gc_ck_X12_swaps : cl_X12_swaps.all (gc_ck gb_lkX12 gb_lnX12 [] 0) = true := by decide +kernel
theorem gm_161 (hl : l.stackTraces = false) : gc_MM l D cA ad A adV 161 := by
  refine ⟨gb_T161, fun h => absurd h (by decide +kernel), fun as σ o hg => ?_⟩
  have hM : ∀ mid ∈ ([] : List Nat), gc_MM l D cA ad A adV mid := (fun _ h => nomatch h)
  replace hg : c_X12_swaps as gaSH σ some = some o := hg
  unfold c_X12_swaps at hg
  split at hg
  · skip
    rename_i r0 a b
    obtain ⟨hb, hg⟩ := gc_bif hg
    obtain rfl := Nat.eq_of_beq_eq_true hb
    obtain ⟨q, hq, hg⟩ := gc_bind hg
    obtain rfl := Option.some.inj hg
    exact gc_metG (maxL := 4) (lf := true) hl gc_pnX12 rfl gb_oX12 gc_rk_X12_swaps gb_nX12 hM gc_ck_X12_swaps (t_X12_swaps a b σ _ hq) gc_hoV rfl (fun v hv => by cases hv; rfl) (Nat.le_of_ble_eq_true rfl) rfl
  · cases hg
theorem gc_rk_X12_gives : cl_X12_gives.all (gb_rk gb_flX12 gb_slX12 gb_nlX12 gb_llX12 gb_tlX12 cX12_gives) = true := by decide +kernel
theorem gc_ck_X12_gives : cl_X12_gives.all (gc_ck gb_lkX12 gb_lnX12 [] 0) = true := by decide +kernel
theorem gm_164 (hl : l.stackTraces = false) : gc_MM l D cA ad A adV 164 := by
  refine ⟨gb_T164, fun h => absurd h (by decide +kernel), fun as σ o hg => ?_⟩
  have hM : ∀ mid ∈ ([] : List Nat), gc_MM l D cA ad A adV mid := (fun _ h => nomatch h)
  replace hg : c_X12_gives as gaSH σ some = some o := hg
  unfold c_X12_gives at hg
  split at hg
  · skip
    rename_i r0 a b c
    obtain ⟨hb, hg⟩ := gc_bif hg
    obtain rfl := Nat.eq_of_beq_eq_true hb
    obtain ⟨q, hq, hg⟩ := gc_bind hg
    obtain rfl := Option.some.inj hg
    exact gc_metG (maxL := 4) (lf := true) hl gc_pnX12 rfl gb_oX12 gc_rk_X12_gives gb_nX12 hM gc_ck_X12_gives (t_X12_gives a b c σ _ hq) gc_hoV rfl (fun v hv => by cases hv; rfl) (Nat.le_of_ble_eq_true rfl) rfl
  · cases hg
theorem gc_rk_X11_errorCode : cl_X11_errorCode.all (gb_rk gb_flX11 gb_slX11 gb_nlX11 gb_llX11 gb_tlX11 cX11_errorCode) = true := by decide +kernel
theorem gc_ck_X11_errorCode : cl_X11_errorCode.all (gc_ck gb_lkX11 gb_lnX11 [] 0) = true := by decide +kernel
theorem gm_169 (hl : l.stackTraces = false) : gc_MM l D cA ad A adV 169 := by
  refine ⟨gb_T169, fun h => absurd h (by decide +kernel), fun as σ o hg => ?_⟩
  have hM : ∀ mid ∈ ([] : List Nat), gc_MM l D cA ad A adV mid := (fun _ h => nomatch h)
  replace hg : c_X11_errorCode as gaSH σ some = some o := hg
  unfold c_X11_errorCode at hg
  split at hg
  · skip
    rename_i r0
    obtain ⟨hb, hg⟩ := gc_bif hg
    obtain rfl := Nat.eq_of_beq_eq_true hb
    obtain rfl := Option.some.inj hg
    exact gc_metP (maxL := 1) (lf := true) hl gc_pnX11 rfl gb_oX11 gc_rk_X11_errorCode gb_nX11 hM gc_ck_X11_errorCode (t_X11_errorCode σ _ (e_X11_errorCode σ)) gd_hoI rfl (fun v hv => by cases hv; exact Or.inl rfl) (Nat.le_of_ble_eq_true rfl) rfl
  · cases hg
theorem gc_rk_X12_errorCode : cl_X12_errorCode.all (gb_rk gb_flX12 gb_slX12 gb_nlX12 gb_llX12 gb_tlX12 cX12_errorCode) = true := by decide +kernel
theorem gc_ck_X12_errorCode : cl_X12_errorCode.all (gc_ck gb_lkX12 gb_lnX12 [] 0) = true := by decide +kernel
theorem gm_170 (hl : l.stackTraces = false) : gc_MM l D cA ad A adV 170 := by
  refine ⟨gb_T170, fun h => absurd h (by decide +kernel), fun as σ o hg => ?_⟩
  have hM : ∀ mid ∈ ([] : List Nat), gc_MM l D cA ad A adV mid := (fun _ h => nomatch h)
  replace hg : c_X12_errorCode as gaSH σ some = some o := hg
  unfold c_X12_errorCode at hg
  split at hg
  · skip
    rename_i r0
    obtain ⟨hb, hg⟩ := gc_bif hg
    obtain rfl := Nat.eq_of_beq_eq_true hb
    obtain rfl := Option.some.inj hg
    exact gc_metG (maxL := 1) (lf := true) hl gc_pnX12 rfl gb_oX12 gc_rk_X12_errorCode gb_nX12 hM gc_ck_X12_errorCode (t_X12_errorCode σ _ (e_X12_errorCode σ)) gc_hoI rfl (fun v hv => by cases hv; exact Or.inl rfl) (Nat.le_of_ble_eq_true rfl) rfl
  · cases hg
theorem gc_rk_X11_errorPosition : cl_X11_errorPosition.all (gb_rk gb_flX11 gb_slX11 gb_nlX11 gb_llX11 gb_tlX11 cX11_errorPosition) = true := by decide +kernel
theorem gc_ck_X11_errorPosition : cl_X11_errorPosition.all (gc_ck gb_lkX11 gb_lnX11 [] 0) = true := by decide +kernel
theorem gm_171 (hl : l.stackTraces = false) : gc_MM l D cA ad A adV 171 := by
  refine ⟨gb_T171, fun h => absurd h (by decide +kernel), fun as σ o hg => ?_⟩
  have hM : ∀ mid ∈ ([] : List Nat), gc_MM l D cA ad A adV mid := (fun _ h => nomatch h)
  replace hg : c_X11_errorPosition as gaSH σ some = some o := hg
  unfold c_X11_errorPosition at hg
  split at hg
  · skip
    rename_i r0
    obtain ⟨hb, hg⟩ := gc_bif hg
    obtain rfl := Nat.eq_of_beq_eq_true hb
    obtain rfl := Option.some.inj hg
    exact gc_metP (maxL := 1) (lf := true) hl gc_pnX11 rfl gb_oX11 gc_rk_X11_errorPosition gb_nX11 hM gc_ck_X11_errorPosition (t_X11_errorPosition σ _ (e_X11_errorPosition σ)) gd_hoI rfl (fun v hv => by cases hv; exact Or.inl rfl) (Nat.le_of_ble_eq_true rfl) rfl
  · cases hg
theorem gc_rk_X12_errorPosition : cl_X12_errorPosition.all (gb_rk gb_flX12 gb_slX12 gb_nlX12 gb_llX12 gb_tlX12 cX12_errorPosition) = true := by decide +kernel
theorem gc_ck_X12_errorPosition : cl_X12_errorPosition.all (gc_ck gb_lkX12 gb_lnX12 [] 0) = true := by decide +kernel
theorem gm_172 (hl : l.stackTraces = false) : gc_MM l D cA ad A adV 172 := by
  refine ⟨gb_T172, fun h => absurd h (by decide +kernel), fun as σ o hg => ?_⟩
  have hM : ∀ mid ∈ ([] : List Nat), gc_MM l D cA ad A adV mid := (fun _ h => nomatch h)
  replace hg : c_X12_errorPosition as gaSH σ some = some o := hg
  unfold c_X12_errorPosition at hg
  split at hg
  · skip
    rename_i r0
    obtain ⟨hb, hg⟩ := gc_bif hg
    obtain rfl := Nat.eq_of_beq_eq_true hb
    obtain rfl := Option.some.inj hg
    exact gc_metG (maxL := 1) (lf := true) hl gc_pnX12 rfl gb_oX12 gc_rk_X12_errorPosition gb_nX12 hM gc_ck_X12_errorPosition (t_X12_errorPosition σ _ (e_X12_errorPosition σ)) gc_hoI rfl (fun v hv => by cases hv; exact Or.inl rfl) (Nat.le_of_ble_eq_true rfl) rfl
  · cases hg
theorem gc_rk_X12_fails : cl_X12_fails.all (gb_rk gb_flX12 gb_slX12 gb_nlX12 gb_llX12 gb_tlX12 cX12_fails) = true := by decide +kernel
theorem gc_ck_X12_fails : cl_X12_fails.all (gc_ck gb_lkX12 gb_lnX12 [] 0) = true := by decide +kernel
theorem gm_173 (hl : l.stackTraces = false) : gc_MM l D cA ad A adV 173 := by
  refine ⟨gb_T173, fun h => absurd h (by decide +kernel), fun as σ o hg => ?_⟩
  have hM : ∀ mid ∈ ([] : List Nat), gc_MM l D cA ad A adV mid := (fun _ h => nomatch h)
  replace hg : c_X12_fails as gaSH σ some = some o := hg
  unfold c_X12_fails at hg
  split at hg
  · skip
    rename_i r0 a b
    obtain ⟨hb, hg⟩ := gc_bif hg
    obtain rfl := Nat.eq_of_beq_eq_true hb
    split at hg
    · rename_i hz
      obtain rfl := Option.some.inj hg
      have hv1 : (v_X12_fails a b σ).1 = a := by rw [ve_X12_fails]; unfold vb_X12_fails; split <;> rfl
      exact gc_metG (maxL := 3) (lf := true) hl gc_pnX12 rfl gb_oX12 gc_rk_X12_fails gb_nX12 hM gc_ck_X12_fails (t_X12_fails a b σ _ (e_X12_fails a b σ)) gc_hoI rfl (fun v hv => by cases hv; exact Or.inr ⟨rfl, by rw [hv1]; exact hz⟩) (Nat.le_of_ble_eq_true rfl) rfl
    · cases hg
  · cases hg
theorem gc_rk_X12_differs : cl_X12_differs.all (gb_rk gb_flX12 gb_slX12 gb_nlX12 gb_llX12 gb_tlX12 cX12_differs) = true := by decide +kernel
theorem gc_ck_X12_differs : cl_X12_differs.all (gc_ck gb_lkX12 gb_lnX12 [] 0) = true := by decide +kernel
theorem gm_189 (hl : l.stackTraces = false) : gc_MM l D cA ad A adV 189 := by
  refine ⟨gb_T189, fun h => absurd h (by decide +kernel), fun as σ o hg => ?_⟩
  have hM : ∀ mid ∈ ([] : List Nat), gc_MM l D cA ad A adV mid := (fun _ h => nomatch h)
  replace hg : c_X12_differs as gaSH σ some = some o := hg
  unfold c_X12_differs at hg
  split at hg
  · skip
    rename_i r0 a
    obtain ⟨hb, hg⟩ := gc_bif hg
    obtain rfl := Nat.eq_of_beq_eq_true hb
    obtain ⟨q, hq, hg⟩ := gc_bind hg
    obtain rfl := Option.some.inj hg
    exact gc_metP (maxL := 2) (lf := true) hl gc_pnX12 rfl gb_oX12 gc_rk_X12_differs gb_nX12 hM gc_ck_X12_differs (t_X12_differs a σ _ hq) gd_hoI rfl (fun v hv => by cases hv; exact Or.inr ⟨rfl, z_X12_differs a σ _ hq⟩) (Nat.le_of_ble_eq_true rfl) rfl
  · cases hg
theorem gc_rk_X12_watchedMany : cl_X12_watchedMany.all (gb_rk gb_flX12 gb_slX12 gb_nlX12 gb_llX12 gb_tlX12 cX12_watchedMany) = true := by decide +kernel
theorem gc_ck_X12_watchedMany : cl_X12_watchedMany.all (gc_ck gb_lkX12 gb_lnX12 [] 0) = true := by decide +kernel
theorem gm_207 (hl : l.stackTraces = false) : gc_MM l D cA ad A adV 207 := by
  refine ⟨gb_T207, fun h => absurd h (by decide +kernel), fun as σ o hg => ?_⟩
  have hM : ∀ mid ∈ ([] : List Nat), gc_MM l D cA ad A adV mid := (fun _ h => nomatch h)
  replace hg : c_X12_watchedMany as gaSH σ some = some o := hg
  unfold c_X12_watchedMany at hg
  split at hg
  · skip
    rename_i r0
    obtain ⟨hb, hg⟩ := gc_bif hg
    obtain rfl := Nat.eq_of_beq_eq_true hb
    obtain ⟨q, hq, hg⟩ := gc_bind hg
    obtain rfl := Option.some.inj hg
    exact gc_metP (maxL := 3) (lf := true) hl gc_pnX12 rfl gb_oX12 gc_rk_X12_watchedMany gb_nX12 hM gc_ck_X12_watchedMany (t_X12_watchedMany σ _ hq) gd_hoI rfl (fun v hv => by cases hv; exact Or.inl rfl) (Nat.le_of_ble_eq_true rfl) rfl
  · cases hg
theorem gc_rk_X12_print : cl_X12_print.all (gb_rk gb_flX12 gb_slX12 gb_nlX12 gb_llX12 gb_tlX12 cX12_print) = true := by decide +kernel
theorem gc_ck_X12_print : cl_X12_print.all (gc_ck gb_lkX12 gb_lnX12 [] 0) = true := by decide +kernel
theorem gm_237 (hl : l.stackTraces = false) : gc_MM l D cA ad A adV 237 := by
  refine ⟨gb_T237, fun h => absurd h (by decide +kernel), fun as σ o hg => ?_⟩
  have hM : ∀ mid ∈ ([] : List Nat), gc_MM l D cA ad A adV mid := (fun _ h => nomatch h)
  replace hg : c_X12_print as gaSH σ some = some o := hg
  unfold c_X12_print at hg
  split at hg
  · skip
    rename_i r0 a
    obtain ⟨hb, hg⟩ := gc_bif hg
    obtain rfl := Nat.eq_of_beq_eq_true hb
    obtain ⟨q, hq, hg⟩ := gc_bind hg
    obtain rfl := Option.some.inj hg
    exact gc_metG (maxL := 2) (lf := true) hl gc_pnX12 rfl gb_oX12 gc_rk_X12_print gb_nX12 hM gc_ck_X12_print (t_X12_print a σ _ hq) gc_hoV rfl (fun v hv => by cases hv; rfl) (Nat.le_of_ble_eq_true rfl) rfl
  · cases hg
theorem gc_rk_X11_undoDepth : cl_X11_undoDepth.all (gb_rk gb_flX11 gb_slX11 gb_nlX11 gb_llX11 gb_tlX11 cX11_undoDepth) = true := by decide +kernel
theorem gc_ck_X11_undoDepth : cl_X11_undoDepth.all (gc_ck gb_lkX11 gb_lnX11 [] 0) = true := by decide +kernel
theorem gm_243 (hl : l.stackTraces = false) : gc_MM l D cA ad A adV 243 := by
  refine ⟨gb_T243, fun h => absurd h (by decide +kernel), fun as σ o hg => ?_⟩
  have hM : ∀ mid ∈ ([] : List Nat), gc_MM l D cA ad A adV mid := (fun _ h => nomatch h)
  replace hg : c_X11_undoDepth as gaSH σ some = some o := hg
  unfold c_X11_undoDepth at hg
  split at hg
  · skip
    rename_i r0
    obtain ⟨hb, hg⟩ := gc_bif hg
    obtain rfl := Nat.eq_of_beq_eq_true hb
    obtain rfl := Option.some.inj hg
    exact gc_metP (maxL := 1) (lf := true) hl gc_pnX11 rfl gb_oX11 gc_rk_X11_undoDepth gb_nX11 hM gc_ck_X11_undoDepth (t_X11_undoDepth σ _ (e_X11_undoDepth σ)) gd_hoI rfl (fun v hv => by cases hv; exact Or.inl rfl) (Nat.le_of_ble_eq_true rfl) rfl
  · cases hg
theorem gc_rk_X12_undoDepth : cl_X12_undoDepth.all (gb_rk gb_flX12 gb_slX12 gb_nlX12 gb_llX12 gb_tlX12 cX12_undoDepth) = true := by decide +kernel
theorem gc_ck_X12_undoDepth : cl_X12_undoDepth.all (gc_ck gb_lkX12 gb_lnX12 [] 0) = true := by decide +kernel
theorem gm_244 (hl : l.stackTraces = false) : gc_MM l D cA ad A adV 244 := by
  refine ⟨gb_T244, fun h => absurd h (by decide +kernel), fun as σ o hg => ?_⟩
  have hM : ∀ mid ∈ ([] : List Nat), gc_MM l D cA ad A adV mid := (fun _ h => nomatch h)
  replace hg : c_X12_undoDepth as gaSH σ some = some o := hg
  unfold c_X12_undoDepth at hg
  split at hg
  · skip
    rename_i r0
    obtain ⟨hb, hg⟩ := gc_bif hg
    obtain rfl := Nat.eq_of_beq_eq_true hb
    obtain rfl := Option.some.inj hg
    exact gc_metG (maxL := 1) (lf := true) hl gc_pnX12 rfl gb_oX12 gc_rk_X12_undoDepth gb_nX12 hM gc_ck_X12_undoDepth (t_X12_undoDepth σ _ (e_X12_undoDepth σ)) gc_hoI rfl (fun v hv => by cases hv; exact Or.inl rfl) (Nat.le_of_ble_eq_true rfl) rfl
  · cases hg
theorem gc_rk_X12_thrown : cl_X12_thrown.all (gb_rk gb_flX12 gb_slX12 gb_nlX12 gb_llX12 gb_tlX12 cX12_thrown) = true := by decide +kernel
theorem gc_ck_X12_thrown : cl_X12_thrown.all (gc_ck gb_lkX12 gb_lnX12 [] 0) = true := by decide +kernel
theorem gm_245 (hl : l.stackTraces = false) : gc_MM l D cA ad A adV 245 := by
  refine ⟨gb_T245, fun h => absurd h (by decide +kernel), fun as σ o hg => ?_⟩
  have hM : ∀ mid ∈ ([] : List Nat), gc_MM l D cA ad A adV mid := (fun _ h => nomatch h)
  replace hg : c_X12_thrown as gaSH σ some = some o := hg
  unfold c_X12_thrown at hg
  split at hg
  · skip
    rename_i r0
    obtain ⟨hb, hg⟩ := gc_bif hg
    obtain rfl := Nat.eq_of_beq_eq_true hb
    obtain rfl := Option.some.inj hg
    exact gc_metP (maxL := 1) (lf := true) hl gc_pnX12 rfl gb_oX12 gc_rk_X12_thrown gb_nX12 hM gc_ck_X12_thrown (t_X12_thrown σ _ (e_X12_thrown σ)) gd_hoI rfl (fun v hv => by cases hv; exact Or.inl rfl) (Nat.le_of_ble_eq_true rfl) rfl
  · cases hg
theorem gc_rk_X11_truncateText : cl_X11_truncateText.all (gb_rk gb_flX11 gb_slX11 gb_nlX11 gb_llX11 gb_tlX11 cX11_truncateText) = true := by decide +kernel
theorem gc_ck_X11_truncateText : cl_X11_truncateText.all (gc_ck gb_lkX11 gb_lnX11 [] 0) = true := by decide +kernel
theorem gm_401 (hl : l.stackTraces = false) : gc_MM l D cA ad A adV 401 := by
  refine ⟨gb_T401, fun h => absurd h (by decide +kernel), fun as σ o hg => ?_⟩
  have hM : ∀ mid ∈ ([] : List Nat), gc_MM l D cA ad A adV mid := (fun _ h => nomatch h)
  replace hg : c_X11_truncateText as gaSH σ some = some o := hg
  unfold c_X11_truncateText at hg
  split at hg
  · skip
    rename_i r0 a
    obtain ⟨hb, hg⟩ := gc_bif hg
    obtain rfl := Nat.eq_of_beq_eq_true hb
    obtain ⟨q, hq, hg⟩ := gc_bind hg
    obtain ⟨q, s1⟩ := q
    cases q with
    | inl x =>
      obtain rfl := Option.some.inj hg
      exact gc_metG (maxL := 2) (lf := true) hl gc_pnX11 rfl gb_oX11 gc_rk_X11_truncateText gb_nX11 hM gc_ck_X11_truncateText (t_X11_truncateText a σ _ hq) gc_hoIXl rfl (fun v hv => by cases hv; exact Or.inl rfl) (Nat.le_of_ble_eq_true rfl) rfl
    | inr E =>
      obtain rfl := Option.some.inj hg
      exact gc_metG (maxL := 2) (lf := true) hl gc_pnX11 rfl gb_oX11 gc_rk_X11_truncateText gb_nX11 hM gc_ck_X11_truncateText (t_X11_truncateText a σ _ hq) gc_hoIXr rfl (fun v hv => by cases hv) (Nat.le_of_ble_eq_true rfl) rfl
  · cases hg
theorem gc_rk_X11_requireClass : cl_X11_requireClass.all (gb_rk gb_flX11 gb_slX11 gb_nlX11 gb_llX11 gb_tlX11 cX11_requireClass) = true := by decide +kernel
theorem gc_ck_X11_requireClass : cl_X11_requireClass.all (gc_ck gb_lkX11 gb_lnX11 [] 0) = true := by decide +kernel
theorem gm_432 (hl : l.stackTraces = false) : gc_MM l D cA ad A adV 432 := by
  refine ⟨gb_T432, fun h => absurd h (by decide +kernel), fun as σ o hg => ?_⟩
  have hM : ∀ mid ∈ ([] : List Nat), gc_MM l D cA ad A adV mid := (fun _ h => nomatch h)
  replace hg : c_X11_requireClass as gaSH σ some = some o := hg
  unfold c_X11_requireClass at hg
  split at hg
  · skip
    rename_i r0 a
    obtain ⟨hb, hg⟩ := gc_bif hg
    obtain rfl := Nat.eq_of_beq_eq_true hb
    have hT := t_X11_requireClass a σ _ (e_X11_requireClass a σ)
    generalize v_X11_requireClass a σ = q at hg hT
    cases q with
    | none =>
      obtain rfl := Option.some.inj hg
      exact gc_metP (maxL := 2) (lf := true) hl gc_pnX11 rfl gb_oX11 gc_rk_X11_requireClass gb_nX11 hM gc_ck_X11_requireClass (hT) gd_hoVXl rfl (fun v hv => by cases hv; rfl) (Nat.le_of_ble_eq_true rfl) rfl
    | some E =>
      obtain rfl := Option.some.inj hg
      exact gc_metP (maxL := 2) (lf := true) hl gc_pnX11 rfl gb_oX11 gc_rk_X11_requireClass gb_nX11 hM gc_ck_X11_requireClass (hT) gd_hoVXr rfl (fun v hv => by cases hv) (Nat.le_of_ble_eq_true rfl) rfl
  · cases hg
theorem gc_rk_X10_append : cl_X10_append.all (gb_rk gb_flX10 gb_slX10 gb_nlX10 gb_llX10 gb_tlX10 cX10_append) = true := by decide +kernel
theorem gc_ck_X10_append : cl_X10_append.all (gc_ck gb_lkX10 gb_lnX10 [2] 1) = true := by decide +kernel
theorem gm_6 (hl : l.stackTraces = false) : gc_MM l D cA ad A adV 6 := by
  refine ⟨gb_T6, fun h => absurd h (by decide +kernel), fun as σ o hg => ?_⟩
  have hM : ∀ mid ∈ ([2] : List Nat), gc_MM l D cA ad A adV mid := (List.forall_mem_cons.mpr ⟨gm_2 hl, fun _ h => nomatch h⟩)
  replace hg : c_X10_append as gaSH σ some = some o := hg
  unfold c_X10_append at hg
  split at hg
  · skip
    rename_i r0 a
    obtain ⟨hb, hg⟩ := gc_bif hg
    obtain rfl := Nat.eq_of_beq_eq_true hb
    obtain ⟨q, hq, hg⟩ := gc_bind hg
    obtain rfl := Option.some.inj hg
    exact gc_metG (maxL := 3) (lf := true) hl gc_pnX10 rfl gb_oX10 gc_rk_X10_append gb_nX10 hM gc_ck_X10_append (t_X10_append a σ _ hq) gc_hoV rfl (fun v hv => by cases hv; rfl) (Nat.le_of_ble_eq_true rfl) rfl
  · cases hg
theorem gc_rk_X12_appendText : cl_X12_appendText.all (gb_rk gb_flX12 gb_slX12 gb_nlX12 gb_llX12 gb_tlX12 cX12_appendText) = true := by decide +kernel
theorem gc_ck_X12_appendText : cl_X12_appendText.all (gc_ck gb_lkX12 gb_lnX12 [7, 8] 1) = true := by decide +kernel
theorem gm_9 (hl : l.stackTraces = false) : gc_MM l D cA ad A adV 9 := by
  refine ⟨gb_T9, fun h => absurd h (by decide +kernel), fun as σ o hg => ?_⟩
  have hM : ∀ mid ∈ ([7, 8] : List Nat), gc_MM l D cA ad A adV mid := (List.forall_mem_cons.mpr ⟨gm_7 hl, List.forall_mem_cons.mpr ⟨gm_8 hl, fun _ h => nomatch h⟩⟩)
  replace hg : c_X12_appendText as gaSH σ some = some o := hg
  unfold c_X12_appendText at hg
  split at hg
  · skip
    rename_i r0 a b c d e
    obtain ⟨hb, hg⟩ := gc_bif hg
    obtain rfl := Nat.eq_of_beq_eq_true hb
    obtain ⟨q, hq, hg⟩ := gc_bind hg
    obtain rfl := Option.some.inj hg
    exact gc_metG (maxL := 6) (lf := true) hl gc_pnX12 rfl gb_oX12 gc_rk_X12_appendText gb_nX12 hM gc_ck_X12_appendText (t_X12_appendText a b c d e σ _ hq) gc_hoI rfl (fun v hv => by cases hv; exact Or.inl rfl) (Nat.le_of_ble_eq_true rfl) rfl
  · cases hg
theorem gc_rk_X12_truncateText : cl_X12_truncateText.all (gb_rk gb_flX12 gb_slX12 gb_nlX12 gb_llX12 gb_tlX12 cX12_truncateText) = true := by decide +kernel
theorem gc_ck_X12_truncateText : cl_X12_truncateText.all (gc_ck gb_lkX12 gb_lnX12 [8, 10] 1) = true := by decide +kernel
theorem gm_11 (hl : l.stackTraces = false) : gc_MM l D cA ad A adV 11 := by
  refine ⟨gb_T11, fun h => absurd h (by decide +kernel), fun as σ o hg => ?_⟩
  have hM : ∀ mid ∈ ([8, 10] : List Nat), gc_MM l D cA ad A adV mid := (List.forall_mem_cons.mpr ⟨gm_8 hl, List.forall_mem_cons.mpr ⟨gm_10 hl, fun _ h => nomatch h⟩⟩)
  replace hg : c_X12_truncateText as gaSH σ some = some o := hg
  unfold c_X12_truncateText at hg
  split at hg
  · skip
    rename_i r0 a
    obtain ⟨hb, hg⟩ := gc_bif hg
    obtain rfl := Nat.eq_of_beq_eq_true hb
    obtain rfl := Option.some.inj hg
    exact gc_metG (maxL := 2) (lf := true) hl gc_pnX12 rfl gb_oX12 gc_rk_X12_truncateText gb_nX12 hM gc_ck_X12_truncateText (t_X12_truncateText a σ _ (e_X12_truncateText a σ)) gc_hoI rfl (fun v hv => by cases hv; exact Or.inl rfl) (Nat.le_of_ble_eq_true rfl) rfl
  · cases hg
theorem gc_rk_X10_afterBlanks : cl_X10_afterBlanks.all (gb_rk gb_flX10 gb_slX10 gb_nlX10 gb_llX10 gb_tlX10 cX10_afterBlanks) = true := by decide +kernel
theorem gc_ck_X10_afterBlanks : cl_X10_afterBlanks.all (gc_ck gb_lkX10 gb_lnX10 [1] 1) = true := by decide +kernel
theorem gm_13 (hl : l.stackTraces = false) : gc_MM l D cA ad A adV 13 := by
  refine ⟨gb_T13, fun h => absurd h (by decide +kernel), fun as σ o hg => ?_⟩
  have hM : ∀ mid ∈ ([1] : List Nat), gc_MM l D cA ad A adV mid := (List.forall_mem_cons.mpr ⟨gm_1 hl, fun _ h => nomatch h⟩)
  replace hg : c_X10_afterBlanks as gaSH σ some = some o := hg
  unfold c_X10_afterBlanks at hg
  split at hg
  · skip
    rename_i r0 a
    obtain ⟨hb, hg⟩ := gc_bif hg
    obtain rfl := Nat.eq_of_beq_eq_true hb
    obtain ⟨q, hq, hg⟩ := gc_bind hg
    obtain rfl := Option.some.inj hg
    exact gc_metP (maxL := 3) (lf := true) hl gc_pnX10 rfl gb_oX10 gc_rk_X10_afterBlanks gb_nX10 hM gc_ck_X10_afterBlanks (t_X10_afterBlanks a σ _ hq) gd_hoI rfl (fun v hv => by cases hv; exact Or.inl rfl) (Nat.le_of_ble_eq_true rfl) rfl
  · cases hg
theorem gc_rk_X10_afterDigits : cl_X10_afterDigits.all (gb_rk gb_flX10 gb_slX10 gb_nlX10 gb_llX10 gb_tlX10 cX10_afterDigits) = true := by decide +kernel
theorem gc_ck_X10_afterDigits : cl_X10_afterDigits.all (gc_ck gb_lkX10 gb_lnX10 [1, 15] 1) = true := by decide +kernel
theorem gm_17 (hl : l.stackTraces = false) : gc_MM l D cA ad A adV 17 := by
  refine ⟨gb_T17, fun h => absurd h (by decide +kernel), fun as σ o hg => ?_⟩
  have hM : ∀ mid ∈ ([1, 15] : List Nat), gc_MM l D cA ad A adV mid := (List.forall_mem_cons.mpr ⟨gm_1 hl, List.forall_mem_cons.mpr ⟨gm_15 hl, fun _ h => nomatch h⟩⟩)
  replace hg : c_X10_afterDigits as gaSH σ some = some o := hg
  unfold c_X10_afterDigits at hg
  split at hg
  · skip
    rename_i r0 a
    obtain ⟨hb, hg⟩ := gc_bif hg
    obtain rfl := Nat.eq_of_beq_eq_true hb
    obtain ⟨q, hq, hg⟩ := gc_bind hg
    obtain rfl := Option.some.inj hg
    exact gc_metG (maxL := 3) (lf := true) hl gc_pnX10 rfl gb_oX10 gc_rk_X10_afterDigits gb_nX10 hM gc_ck_X10_afterDigits (t_X10_afterDigits a σ _ hq) gc_hoI rfl (fun v hv => by cases hv; exact Or.inl rfl) (Nat.le_of_ble_eq_true rfl) rfl
  · cases hg
theorem gc_rk_X10_afterLetters : cl_X10_afterLetters.all (gb_rk gb_flX10 gb_slX10 gb_nlX10 gb_llX10 gb_tlX10 cX10_afterLetters) = true := by decide +kernel
theorem gc_ck_X10_afterLetters : cl_X10_afterLetters.all (gc_ck gb_lkX10 gb_lnX10 [1, 14] 1) = true := by decide +kernel
theorem gm_18 (hl : l.stackTraces = false) : gc_MM l D cA ad A adV 18 := by
  refine ⟨gb_T18, fun h => absurd h (by decide +kernel), fun as σ o hg => ?_⟩
  have hM : ∀ mid ∈ ([1, 14] : List Nat), gc_MM l D cA ad A adV mid := (List.forall_mem_cons.mpr ⟨gm_1 hl, List.forall_mem_cons.mpr ⟨gm_14 hl, fun _ h => nomatch h⟩⟩)
  replace hg : c_X10_afterLetters as gaSH σ some = some o := hg
  unfold c_X10_afterLetters at hg
  split at hg
  · skip
    rename_i r0 a
    obtain ⟨hb, hg⟩ := gc_bif hg
    obtain rfl := Nat.eq_of_beq_eq_true hb
    obtain ⟨q, hq, hg⟩ := gc_bind hg
    obtain rfl := Option.some.inj hg
    exact gc_metP (maxL := 3) (lf := true) hl gc_pnX10 rfl gb_oX10 gc_rk_X10_afterLetters gb_nX10 hM gc_ck_X10_afterLetters (t_X10_afterLetters a σ _ hq) gd_hoI rfl (fun v hv => by cases hv; exact Or.inl rfl) (Nat.le_of_ble_eq_true rfl) rfl
  · cases hg
theorem gc_rk_X8_fail : cl_X8_fail.all (gb_rk gb_flX8 gb_slX8 gb_nlX8 gb_llX8 gb_tlX8 cX8_fail) = true := by decide +kernel
theorem gc_ck_X8_fail : cl_X8_fail.all (gc_ck gb_lkX8 gb_lnX8 [22] 1) = true := by decide +kernel
theorem gm_23 (hl : l.stackTraces = false) : gc_MM l D cA ad A adV 23 := by
  refine ⟨gb_T23, fun h => absurd h (by decide +kernel), fun as σ o hg => ?_⟩
  have hM : ∀ mid ∈ ([22] : List Nat), gc_MM l D cA ad A adV mid := (List.forall_mem_cons.mpr ⟨gm_22 hl, fun _ h => nomatch h⟩)
  replace hg : c_X8_fail as gaSH σ some = some o := hg
  unfold c_X8_fail at hg
  split at hg
  · skip
    rename_i r0 a
    obtain ⟨hb, hg⟩ := gc_bif hg
    obtain rfl := Nat.eq_of_beq_eq_true hb
    obtain rfl := Option.some.inj hg
    exact gc_metG (maxL := 2) (lf := true) hl gc_pnX8 rfl gb_oX8 gc_rk_X8_fail gb_nX8 hM gc_ck_X8_fail (t_X8_fail a σ _ (e_X8_fail a σ)) gc_hoI rfl (fun v hv => by cases hv; exact Or.inr ⟨rfl, z_X8_fail a σ⟩) (Nat.le_of_ble_eq_true rfl) rfl
  · cases hg
theorem gc_rk_X7_addSubject : cl_X7_addSubject.all (gb_rk gb_flX7 gb_slX7 gb_nlX7 gb_llX7 gb_tlX7 cX7_addSubject) = true := by decide +kernel
theorem gc_ck_X7_addSubject : cl_X7_addSubject.all (gc_ck gb_lkX7 gb_lnX7 [2] 1) = true := by decide +kernel
theorem gm_29 (hl : l.stackTraces = false) : gc_MM l D cA ad A adV 29 := by
  refine ⟨gb_T29, fun h => absurd h (by decide +kernel), fun as σ o hg => ?_⟩
  have hM : ∀ mid ∈ ([2] : List Nat), gc_MM l D cA ad A adV mid := (List.forall_mem_cons.mpr ⟨gm_2 hl, fun _ h => nomatch h⟩)
  replace hg : c_X7_addSubject as gaSH σ some = some o := hg
  unfold c_X7_addSubject at hg
  split at hg
  · skip
    rename_i r0 a
    rcases gc_bif2 hg with ⟨hb, hg⟩ | hg
    · skip
      obtain rfl := Nat.eq_of_beq_eq_true hb
      obtain rfl := Option.some.inj hg
      exact gc_metG (maxL := 2) (lf := true) hl gc_pnX7 rfl gb_oX7 gc_rk_X7_addSubject gb_nX7 hM gc_ck_X7_addSubject (t_X7_addSubject_49 a σ _ (e_X7_addSubject_49 a σ)) gc_hoV rfl (fun v hv => by cases hv; rfl) (Nat.le_of_ble_eq_true rfl) rfl
    · skip
      obtain ⟨hb, hg⟩ := gc_bif hg
      obtain rfl := Nat.eq_of_beq_eq_true hb
      obtain rfl := Option.some.inj hg
      exact gc_metG (maxL := 2) (lf := true) hl gc_pnX7 rfl gb_oX7 gc_rk_X7_addSubject gb_nX7 hM gc_ck_X7_addSubject (t_X7_addSubject a σ _ (e_X7_addSubject a σ)) gc_hoV rfl (fun v hv => by cases hv; rfl) (Nat.le_of_ble_eq_true rfl) rfl
  · cases hg
theorem gc_rk_X7_addTeacher : cl_X7_addTeacher.all (gb_rk gb_flX7 gb_slX7 gb_nlX7 gb_llX7 gb_tlX7 cX7_addTeacher) = true := by decide +kernel
theorem gc_ck_X7_addTeacher : cl_X7_addTeacher.all (gc_ck gb_lkX7 gb_lnX7 [2] 1) = true := by decide +kernel
theorem gm_31 (hl : l.stackTraces = false) : gc_MM l D cA ad A adV 31 := by
  refine ⟨gb_T31, fun h => absurd h (by decide +kernel), fun as σ o hg => ?_⟩
  have hM : ∀ mid ∈ ([2] : List Nat), gc_MM l D cA ad A adV mid := (List.forall_mem_cons.mpr ⟨gm_2 hl, fun _ h => nomatch h⟩)
  replace hg : c_X7_addTeacher as gaSH σ some = some o := hg
  unfold c_X7_addTeacher at hg
  split at hg
  · skip
    rename_i r0 a b
    rcases gc_bif2 hg with ⟨hb, hg⟩ | hg
    · skip
      obtain rfl := Nat.eq_of_beq_eq_true hb
      obtain rfl := Option.some.inj hg
      exact gc_metG (maxL := 3) (lf := true) hl gc_pnX7 rfl gb_oX7 gc_rk_X7_addTeacher gb_nX7 hM gc_ck_X7_addTeacher (t_X7_addTeacher_49 a b σ _ (e_X7_addTeacher_49 a b σ)) gc_hoV rfl (fun v hv => by cases hv; rfl) (Nat.le_of_ble_eq_true rfl) rfl
    · skip
      obtain ⟨hb, hg⟩ := gc_bif hg
      obtain rfl := Nat.eq_of_beq_eq_true hb
      obtain rfl := Option.some.inj hg
      exact gc_metG (maxL := 3) (lf := true) hl gc_pnX7 rfl gb_oX7 gc_rk_X7_addTeacher gb_nX7 hM gc_ck_X7_addTeacher (t_X7_addTeacher a b σ _ (e_X7_addTeacher a b σ)) gc_hoV rfl (fun v hv => by cases hv; rfl) (Nat.le_of_ble_eq_true rfl) rfl
  · cases hg
theorem gc_rk_X7_addRoom : cl_X7_addRoom.all (gb_rk gb_flX7 gb_slX7 gb_nlX7 gb_llX7 gb_tlX7 cX7_addRoom) = true := by decide +kernel
theorem gc_ck_X7_addRoom : cl_X7_addRoom.all (gc_ck gb_lkX7 gb_lnX7 [2] 1) = true := by decide +kernel
theorem gm_35 (hl : l.stackTraces = false) : gc_MM l D cA ad A adV 35 := by
  refine ⟨gb_T35, fun h => absurd h (by decide +kernel), fun as σ o hg => ?_⟩
  have hM : ∀ mid ∈ ([2] : List Nat), gc_MM l D cA ad A adV mid := (List.forall_mem_cons.mpr ⟨gm_2 hl, fun _ h => nomatch h⟩)
  replace hg : c_X7_addRoom as gaSH σ some = some o := hg
  unfold c_X7_addRoom at hg
  split at hg
  · skip
    rename_i r0 a
    rcases gc_bif2 hg with ⟨hb, hg⟩ | hg
    · skip
      obtain rfl := Nat.eq_of_beq_eq_true hb
      obtain rfl := Option.some.inj hg
      exact gc_metG (maxL := 2) (lf := true) hl gc_pnX7 rfl gb_oX7 gc_rk_X7_addRoom gb_nX7 hM gc_ck_X7_addRoom (t_X7_addRoom_49 a σ _ (e_X7_addRoom_49 a σ)) gc_hoV rfl (fun v hv => by cases hv; rfl) (Nat.le_of_ble_eq_true rfl) rfl
    · skip
      obtain ⟨hb, hg⟩ := gc_bif hg
      obtain rfl := Nat.eq_of_beq_eq_true hb
      obtain rfl := Option.some.inj hg
      exact gc_metG (maxL := 2) (lf := true) hl gc_pnX7 rfl gb_oX7 gc_rk_X7_addRoom gb_nX7 hM gc_ck_X7_addRoom (t_X7_addRoom a σ _ (e_X7_addRoom a σ)) gc_hoV rfl (fun v hv => by cases hv; rfl) (Nat.le_of_ble_eq_true rfl) rfl
  · cases hg
theorem gc_rk_X7_isTakenAtFirst : cl_X7_isTakenAtFirst.all (gb_rk gb_flX7 gb_slX7 gb_nlX7 gb_llX7 gb_tlX7 cX7_isTakenAtFirst) = true := by decide +kernel
theorem gc_ck_X7_isTakenAtFirst : cl_X7_isTakenAtFirst.all (gc_ck gb_lkX7 gb_lnX7 [1] 1) = true := by decide +kernel
theorem gm_39 (hl : l.stackTraces = false) : gc_MM l D cA ad A adV 39 := by
  refine ⟨gb_T39, fun h => absurd h (by decide +kernel), fun as σ o hg => ?_⟩
  have hM : ∀ mid ∈ ([1] : List Nat), gc_MM l D cA ad A adV mid := (List.forall_mem_cons.mpr ⟨gm_1 hl, fun _ h => nomatch h⟩)
  replace hg : c_X7_isTakenAtFirst as gaSH σ some = some o := hg
  unfold c_X7_isTakenAtFirst at hg
  split at hg
  · skip
    rename_i r0 a r1 b
    rcases gc_bif2 hg with ⟨hb, hg⟩ | hg
    · skip
      obtain ⟨hb0, hb1⟩ := Bool.and_eq_true_iff.mp hb
      obtain rfl := Nat.eq_of_beq_eq_true hb0
      obtain rfl := Nat.eq_of_beq_eq_true hb1
      obtain ⟨q, hq, hg⟩ := gc_bind hg
      obtain rfl := Option.some.inj hg
      exact gc_metP (maxL := 5) (lf := true) hl gc_pnX7 rfl gb_oX7 gc_rk_X7_isTakenAtFirst gb_nX7 hM gc_ck_X7_isTakenAtFirst (t_X7_isTakenAtFirst_49_58 a b σ _ hq) gd_hoI rfl (fun v hv => by cases hv; exact Or.inr ⟨rfl, z_X7_isTakenAtFirst_49_58 a b σ _ hq⟩) (Nat.le_of_ble_eq_true rfl) rfl
    · skip
      rcases gc_bif2 hg with ⟨hb, hg⟩ | hg
      · skip
        obtain ⟨hb0, hb1⟩ := Bool.and_eq_true_iff.mp hb
        obtain rfl := Nat.eq_of_beq_eq_true hb0
        obtain rfl := Nat.eq_of_beq_eq_true hb1
        obtain ⟨q, hq, hg⟩ := gc_bind hg
        obtain rfl := Option.some.inj hg
        exact gc_metP (maxL := 5) (lf := true) hl gc_pnX7 rfl gb_oX7 gc_rk_X7_isTakenAtFirst gb_nX7 hM gc_ck_X7_isTakenAtFirst (t_X7_isTakenAtFirst_49_64 a b σ _ hq) gd_hoI rfl (fun v hv => by cases hv; exact Or.inr ⟨rfl, z_X7_isTakenAtFirst_49_64 a b σ _ hq⟩) (Nat.le_of_ble_eq_true rfl) rfl
      · skip
        obtain ⟨hb, hg⟩ := gc_bif hg
        obtain ⟨hb0, hb1⟩ := Bool.and_eq_true_iff.mp hb
        obtain rfl := Nat.eq_of_beq_eq_true hb0
        obtain rfl := Nat.eq_of_beq_eq_true hb1
        obtain ⟨q, hq, hg⟩ := gc_bind hg
        obtain rfl := Option.some.inj hg
        exact gc_metP (maxL := 5) (lf := true) hl gc_pnX7 rfl gb_oX7 gc_rk_X7_isTakenAtFirst gb_nX7 hM gc_ck_X7_isTakenAtFirst (t_X7_isTakenAtFirst_49_66 a b σ _ hq) gd_hoI rfl (fun v hv => by cases hv; exact Or.inr ⟨rfl, z_X7_isTakenAtFirst_49_66 a b σ _ hq⟩) (Nat.le_of_ble_eq_true rfl) rfl
  · cases hg
theorem gc_rk_X7_isQualified : cl_X7_isQualified.all (gb_rk gb_flX7 gb_slX7 gb_nlX7 gb_llX7 gb_tlX7 cX7_isQualified) = true := by decide +kernel
theorem gc_ck_X7_isQualified : cl_X7_isQualified.all (gc_ck gb_lkX7 gb_lnX7 [1, 32, 41] 1) = true := by decide +kernel
theorem gm_42 (hl : l.stackTraces = false) : gc_MM l D cA ad A adV 42 := by
  refine ⟨gb_T42, fun h => absurd h (by decide +kernel), fun as σ o hg => ?_⟩
  have hM : ∀ mid ∈ ([1, 32, 41] : List Nat), gc_MM l D cA ad A adV mid := (List.forall_mem_cons.mpr ⟨gm_1 hl, List.forall_mem_cons.mpr ⟨gm_32 hl, List.forall_mem_cons.mpr ⟨gm_41 hl, fun _ h => nomatch h⟩⟩⟩)
  replace hg : c_X7_isQualified as gaSH σ some = some o := hg
  unfold c_X7_isQualified at hg
  split at hg
  · skip
    rename_i r0 a b
    rcases gc_bif2 hg with ⟨hb, hg⟩ | hg
    · skip
      obtain rfl := Nat.eq_of_beq_eq_true hb
      obtain rfl := Option.some.inj hg
      exact gc_metP (maxL := 3) (lf := true) hl gc_pnX7 rfl gb_oX7 gc_rk_X7_isQualified gb_nX7 hM gc_ck_X7_isQualified (t_X7_isQualified_49 a b σ _ (e_X7_isQualified_49 a b σ)) gd_hoI rfl (fun v hv => by cases hv; exact Or.inr ⟨rfl, z_X7_isQualified_49 a b σ⟩) (Nat.le_of_ble_eq_true rfl) rfl
    · skip
      obtain ⟨hb, hg⟩ := gc_bif hg
      obtain rfl := Nat.eq_of_beq_eq_true hb
      obtain rfl := Option.some.inj hg
      exact gc_metP (maxL := 3) (lf := true) hl gc_pnX7 rfl gb_oX7 gc_rk_X7_isQualified gb_nX7 hM gc_ck_X7_isQualified (t_X7_isQualified a b σ _ (e_X7_isQualified a b σ)) gd_hoI rfl (fun v hv => by cases hv; exact Or.inr ⟨rfl, z_X7_isQualified a b σ⟩) (Nat.le_of_ble_eq_true rfl) rfl
  · cases hg
theorem gc_rk_X7_addLesson : cl_X7_addLesson.all (gb_rk gb_flX7 gb_slX7 gb_nlX7 gb_llX7 gb_tlX7 cX7_addLesson) = true := by decide +kernel
theorem gc_ck_X7_addLesson : cl_X7_addLesson.all (gc_ck gb_lkX7 gb_lnX7 [2] 1) = true := by decide +kernel
theorem gm_43 (hl : l.stackTraces = false) : gc_MM l D cA ad A adV 43 := by
  refine ⟨gb_T43, fun h => absurd h (by decide +kernel), fun as σ o hg => ?_⟩
  have hM : ∀ mid ∈ ([2] : List Nat), gc_MM l D cA ad A adV mid := (List.forall_mem_cons.mpr ⟨gm_2 hl, fun _ h => nomatch h⟩)
  replace hg : c_X7_addLesson as gaSH σ some = some o := hg
  unfold c_X7_addLesson at hg
  split at hg
  · skip
    rename_i r0 a b c d e
    rcases gc_bif2 hg with ⟨hb, hg⟩ | hg
    · skip
      obtain rfl := Nat.eq_of_beq_eq_true hb
      obtain rfl := Option.some.inj hg
      exact gc_metG (maxL := 6) (lf := true) hl gc_pnX7 rfl gb_oX7 gc_rk_X7_addLesson gb_nX7 hM gc_ck_X7_addLesson (t_X7_addLesson_49 a b c d e σ _ (e_X7_addLesson_49 a b c d e σ)) gc_hoV rfl (fun v hv => by cases hv; rfl) (Nat.le_of_ble_eq_true rfl) rfl
    · skip
      obtain ⟨hb, hg⟩ := gc_bif hg
      obtain rfl := Nat.eq_of_beq_eq_true hb
      obtain rfl := Option.some.inj hg
      exact gc_metG (maxL := 6) (lf := true) hl gc_pnX7 rfl gb_oX7 gc_rk_X7_addLesson gb_nX7 hM gc_ck_X7_addLesson (t_X7_addLesson a b c d e σ _ (e_X7_addLesson a b c d e σ)) gc_hoV rfl (fun v hv => by cases hv; rfl) (Nat.le_of_ble_eq_true rfl) rfl
  · cases hg
theorem gc_rk_X3_isAway : cl_X3_isAway.all (gb_rk gb_flX3 gb_slX3 gb_nlX3 gb_llX3 gb_tlX3 cX3_isAway) = true := by decide +kernel
theorem gc_ck_X3_isAway : cl_X3_isAway.all (gc_ck gb_lkX3 gb_lnX3 [1, 32] 1) = true := by decide +kernel
theorem gm_49 (hl : l.stackTraces = false) : gc_MM l D cA ad A adV 49 := by
  refine ⟨gb_T49, fun h => absurd h (by decide +kernel), fun as σ o hg => ?_⟩
  have hM : ∀ mid ∈ ([1, 32] : List Nat), gc_MM l D cA ad A adV mid := (List.forall_mem_cons.mpr ⟨gm_1 hl, List.forall_mem_cons.mpr ⟨gm_32 hl, fun _ h => nomatch h⟩⟩)
  replace hg : c_X3_isAway as gaSH σ some = some o := hg
  unfold c_X3_isAway at hg
  split at hg
  · skip
    rename_i r0 a b
    obtain ⟨hb, hg⟩ := gc_bif hg
    obtain rfl := Nat.eq_of_beq_eq_true hb
    obtain rfl := Option.some.inj hg
    exact gc_metP (maxL := 3) (lf := true) hl gc_pnX3 rfl gb_oX3 gc_rk_X3_isAway gb_nX3 hM gc_ck_X3_isAway (t_X3_isAway a b σ _ (e_X3_isAway a b σ)) gd_hoI rfl (fun v hv => by cases hv; exact Or.inr ⟨rfl, z_X3_isAway a b σ⟩) (Nat.le_of_ble_eq_true rfl) rfl
  · cases hg
theorem gc_rk_X12_isLetterAt : cl_X12_isLetterAt.all (gb_rk gb_flX12 gb_slX12 gb_nlX12 gb_llX12 gb_tlX12 cX12_isLetterAt) = true := by decide +kernel
theorem gc_ck_X12_isLetterAt : cl_X12_isLetterAt.all (gc_ck gb_lkX12 gb_lnX12 [10, 55] 1) = true := by decide +kernel
theorem gm_56 (hl : l.stackTraces = false) : gc_MM l D cA ad A adV 56 := by
  refine ⟨gb_T56, fun h => absurd h (by decide +kernel), fun as σ o hg => ?_⟩
  have hM : ∀ mid ∈ ([10, 55] : List Nat), gc_MM l D cA ad A adV mid := (List.forall_mem_cons.mpr ⟨gm_10 hl, List.forall_mem_cons.mpr ⟨gm_55 hl, fun _ h => nomatch h⟩⟩)
  replace hg : c_X12_isLetterAt as gaSH σ some = some o := hg
  unfold c_X12_isLetterAt at hg
  split at hg
  · skip
    rename_i r0 a
    obtain ⟨hb, hg⟩ := gc_bif hg
    obtain rfl := Nat.eq_of_beq_eq_true hb
    obtain ⟨q, hq, hg⟩ := gc_bind hg
    obtain rfl := Option.some.inj hg
    exact gc_metP (maxL := 2) (lf := true) hl gc_pnX12 rfl gb_oX12 gc_rk_X12_isLetterAt gb_nX12 hM gc_ck_X12_isLetterAt (t_X12_isLetterAt a σ _ hq) gd_hoI rfl (fun v hv => by cases hv; exact Or.inr ⟨rfl, z_X12_isLetterAt a σ _ hq⟩) (Nat.le_of_ble_eq_true rfl) rfl
  · cases hg
theorem gc_rk_X12_isDigitAt : cl_X12_isDigitAt.all (gb_rk gb_flX12 gb_slX12 gb_nlX12 gb_llX12 gb_tlX12 cX12_isDigitAt) = true := by decide +kernel
theorem gc_ck_X12_isDigitAt : cl_X12_isDigitAt.all (gc_ck gb_lkX12 gb_lnX12 [10, 55] 1) = true := by decide +kernel
theorem gm_57 (hl : l.stackTraces = false) : gc_MM l D cA ad A adV 57 := by
  refine ⟨gb_T57, fun h => absurd h (by decide +kernel), fun as σ o hg => ?_⟩
  have hM : ∀ mid ∈ ([10, 55] : List Nat), gc_MM l D cA ad A adV mid := (List.forall_mem_cons.mpr ⟨gm_10 hl, List.forall_mem_cons.mpr ⟨gm_55 hl, fun _ h => nomatch h⟩⟩)
  replace hg : c_X12_isDigitAt as gaSH σ some = some o := hg
  unfold c_X12_isDigitAt at hg
  split at hg
  · skip
    rename_i r0 a
    obtain ⟨hb, hg⟩ := gc_bif hg
    obtain rfl := Nat.eq_of_beq_eq_true hb
    obtain ⟨q, hq, hg⟩ := gc_bind hg
    obtain rfl := Option.some.inj hg
    exact gc_metP (maxL := 2) (lf := true) hl gc_pnX12 rfl gb_oX12 gc_rk_X12_isDigitAt gb_nX12 hM gc_ck_X12_isDigitAt (t_X12_isDigitAt a σ _ hq) gd_hoI rfl (fun v hv => by cases hv; exact Or.inr ⟨rfl, z_X12_isDigitAt a σ _ hq⟩) (Nat.le_of_ble_eq_true rfl) rfl
  · cases hg
theorem gc_rk_X12_digits : cl_X12_digits.all (gb_rk gb_flX12 gb_slX12 gb_nlX12 gb_llX12 gb_tlX12 cX12_digits) = true := by decide +kernel
theorem gc_ck_X12_digits : cl_X12_digits.all (gc_ck gb_lkX12 gb_lnX12 [55] 1) = true := by decide +kernel
theorem gm_64 (hl : l.stackTraces = false) : gc_MM l D cA ad A adV 64 := by
  refine ⟨gb_T64, fun h => absurd h (by decide +kernel), fun as σ o hg => ?_⟩
  have hM : ∀ mid ∈ ([55] : List Nat), gc_MM l D cA ad A adV mid := (List.forall_mem_cons.mpr ⟨gm_55 hl, fun _ h => nomatch h⟩)
  replace hg : c_X12_digits as gaSH σ some = some o := hg
  unfold c_X12_digits at hg
  split at hg
  · skip
    rename_i r0
    obtain ⟨hb, hg⟩ := gc_bif hg
    obtain rfl := Nat.eq_of_beq_eq_true hb
    obtain ⟨q, hq, hg⟩ := gc_bind hg
    obtain rfl := Option.some.inj hg
    exact gc_metP (maxL := 4) (lf := false) hl gc_pnX12 rfl gb_oX12 gc_rk_X12_digits gb_nX12 hM gc_ck_X12_digits (t_X12_digits σ _ hq) gd_hoJ rfl (fun v hv => by cases hv; rfl) (Nat.le_of_ble_eq_true rfl) rfl
  · cases hg
theorem gc_rk_X12_beginAnew : cl_X12_beginAnew.all (gb_rk gb_flX12 gb_slX12 gb_nlX12 gb_llX12 gb_tlX12 cX12_beginAnew) = true := by decide +kernel
theorem gc_ck_X12_beginAnew : cl_X12_beginAnew.all (gc_ck gb_lkX12 gb_lnX12 [73] 1) = true := by decide +kernel
theorem gm_74 (hl : l.stackTraces = false) : gc_MM l D cA ad A adV 74 := by
  refine ⟨gb_T74, fun h => absurd h (by decide +kernel), fun as σ o hg => ?_⟩
  have hM : ∀ mid ∈ ([73] : List Nat), gc_MM l D cA ad A adV mid := (List.forall_mem_cons.mpr ⟨gm_73 hl, fun _ h => nomatch h⟩)
  replace hg : c_X12_beginAnew as gaSH σ some = some o := hg
  unfold c_X12_beginAnew at hg
  split at hg
  · skip
    rename_i r0
    obtain ⟨hb, hg⟩ := gc_bif hg
    obtain rfl := Nat.eq_of_beq_eq_true hb
    obtain ⟨q, hq, hg⟩ := gc_bind hg
    obtain rfl := Option.some.inj hg
    exact gc_metG (maxL := 2) (lf := true) hl gc_pnX12 rfl gb_oX12 gc_rk_X12_beginAnew gb_nX12 hM gc_ck_X12_beginAnew (t_X12_beginAnew σ _ hq) gc_hoV rfl (fun v hv => by cases hv; rfl) (Nat.le_of_ble_eq_true rfl) rfl
  · cases hg
theorem gc_rk_X1_mark : cl_X1_mark.all (gb_rk gb_flX1 gb_slX1 gb_nlX1 gb_llX1 gb_tlX1 cX1_mark) = true := by decide +kernel
theorem gc_ck_X1_mark : cl_X1_mark.all (gc_ck gb_lkX1 gb_lnX1 [1, 2, 76] 1) = true := by decide +kernel
theorem gm_77 (hl : l.stackTraces = false) : gc_MM l D cA ad A adV 77 := by
  refine ⟨gb_T77, fun h => absurd h (by decide +kernel), fun as σ o hg => ?_⟩
  have hM : ∀ mid ∈ ([1, 2, 76] : List Nat), gc_MM l D cA ad A adV mid := (List.forall_mem_cons.mpr ⟨gm_1 hl, List.forall_mem_cons.mpr ⟨gm_2 hl, List.forall_mem_cons.mpr ⟨gm_76 hl, fun _ h => nomatch h⟩⟩⟩)
  replace hg : c_X1_mark as gaSH σ some = some o := hg
  unfold c_X1_mark at hg
  split at hg
  · skip
    rename_i r0
    obtain ⟨hb, hg⟩ := gc_bif hg
    obtain rfl := Nat.eq_of_beq_eq_true hb
    obtain ⟨q, hq, hg⟩ := gc_bind hg
    obtain rfl := Option.some.inj hg
    exact gc_metG (maxL := 3) (lf := true) hl gc_pnX1 rfl gb_oX1 gc_rk_X1_mark gb_nX1 hM gc_ck_X1_mark (t_X1_mark σ _ hq) gc_hoV rfl (fun v hv => by cases hv; rfl) (Nat.le_of_ble_eq_true rfl) rfl
  · cases hg
theorem gc_rk_X1_restoreMarked : cl_X1_restoreMarked.all (gb_rk gb_flX1 gb_slX1 gb_nlX1 gb_llX1 gb_tlX1 cX1_restoreMarked) = true := by decide +kernel
theorem gc_ck_X1_restoreMarked : cl_X1_restoreMarked.all (gc_ck gb_lkX1 gb_lnX1 [1, 2, 76] 1) = true := by decide +kernel
theorem gm_79 (hl : l.stackTraces = false) : gc_MM l D cA ad A adV 79 := by
  refine ⟨gb_T79, fun h => absurd h (by decide +kernel), fun as σ o hg => ?_⟩
  have hM : ∀ mid ∈ ([1, 2, 76] : List Nat), gc_MM l D cA ad A adV mid := (List.forall_mem_cons.mpr ⟨gm_1 hl, List.forall_mem_cons.mpr ⟨gm_2 hl, List.forall_mem_cons.mpr ⟨gm_76 hl, fun _ h => nomatch h⟩⟩⟩)
  replace hg : c_X1_restoreMarked as gaSH σ some = some o := hg
  unfold c_X1_restoreMarked at hg
  split at hg
  · skip
    rename_i r0
    obtain ⟨hb, hg⟩ := gc_bif hg
    obtain rfl := Nat.eq_of_beq_eq_true hb
    obtain ⟨q, hq, hg⟩ := gc_bind hg
    obtain rfl := Option.some.inj hg
    exact gc_metG (maxL := 3) (lf := true) hl gc_pnX1 rfl gb_oX1 gc_rk_X1_restoreMarked gb_nX1 hM gc_ck_X1_restoreMarked (t_X1_restoreMarked σ _ hq) gc_hoV rfl (fun v hv => by cases hv; rfl) (Nat.le_of_ble_eq_true rfl) rfl
  · cases hg
theorem gc_rk_X3_makeOpen : cl_X3_makeOpen.all (gb_rk gb_flX3 gb_slX3 gb_nlX3 gb_llX3 gb_tlX3 cX3_makeOpen) = true := by decide +kernel
theorem gc_ck_X3_makeOpen : cl_X3_makeOpen.all (gc_ck gb_lkX3 gb_lnX3 [2] 1) = true := by decide +kernel
theorem gm_85 (hl : l.stackTraces = false) : gc_MM l D cA ad A adV 85 := by
  refine ⟨gb_T85, fun h => absurd h (by decide +kernel), fun as σ o hg => ?_⟩
  have hM : ∀ mid ∈ ([2] : List Nat), gc_MM l D cA ad A adV mid := (List.forall_mem_cons.mpr ⟨gm_2 hl, fun _ h => nomatch h⟩)
  replace hg : c_X3_makeOpen as gaSH σ some = some o := hg
  unfold c_X3_makeOpen at hg
  split at hg
  · skip
    rename_i r0 a
    obtain ⟨hb, hg⟩ := gc_bif hg
    obtain rfl := Nat.eq_of_beq_eq_true hb
    obtain rfl := Option.some.inj hg
    exact gc_metG (maxL := 2) (lf := true) hl gc_pnX3 rfl gb_oX3 gc_rk_X3_makeOpen gb_nX3 hM gc_ck_X3_makeOpen (t_X3_makeOpen a σ _ (e_X3_makeOpen a σ)) gc_hoV rfl (fun v hv => by cases hv; rfl) (Nat.le_of_ble_eq_true rfl) rfl
  · cases hg
end
