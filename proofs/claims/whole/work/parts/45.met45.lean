section
variable {l : Launch} {D : va_G} {cA : Nat → ClassId} {ad : Nat → Nat} {A : Nat → Prop} {adV : Nat → Nat}
theorem gc_rk_X12_bring : cl_X12_bring.all (gb_rk gb_flX12 gb_slX12 gb_nlX12 gb_llX12 gb_tlX12 cX12_bring) = true := by decide +kernel
theorem gc_ck_X12_bring : cl_X12_bring.all (gc_ck gb_lkX12 gb_lnX12 [] 0) = true := by decide +kernel
theorem gm_7 (hl : l.stackTraces = false) : gc_MM l D cA ad A adV 7 := by
  refine ⟨gb_T7, fun h => absurd h (by decide +kernel), fun as σ o hg => ?_⟩
  have hM : ∀ mid ∈ ([] : List Nat), gc_MM l D cA ad A adV mid := (fun _ h => nomatch h)
  replace hg : c_X12_bring as gaSH σ some = some o := hg
  unfold c_X12_bring at hg
  split at hg
  · skip
    rename_i r0 a
    obtain ⟨hb, hg⟩ := gc_bif hg
    obtain rfl := Nat.eq_of_beq_eq_true hb
    obtain ⟨q, hq, hg⟩ := gc_bind hg
    obtain rfl := Option.some.inj hg
    exact gc_metG (maxL := 3) (lf := true) hl gc_pnX12 rfl gb_oX12 gc_rk_X12_bring gb_nX12 hM gc_ck_X12_bring (t_X12_bring a σ _ hq) gc_hoV rfl (fun v hv => by cases hv; rfl) (Nat.le_of_ble_eq_true rfl) rfl
  · cases hg
theorem gc_rk_X12_no : cl_X12_no.all (gb_rk gb_flX12 gb_slX12 gb_nlX12 gb_llX12 gb_tlX12 cX12_no) = true := by decide +kernel
theorem gc_ck_X12_no : cl_X12_no.all (gc_ck gb_lkX12 gb_lnX12 [] 0) = true := by decide +kernel
theorem gm_8 (hl : l.stackTraces = false) : gc_MM l D cA ad A adV 8 := by
  refine ⟨gb_T8, fun h => absurd h (by decide +kernel), fun as σ o hg => ?_⟩
  have hM : ∀ mid ∈ ([] : List Nat), gc_MM l D cA ad A adV mid := (fun _ h => nomatch h)
  replace hg : c_X12_no as gaSH σ some = some o := hg
  unfold c_X12_no at hg
  split at hg
  · skip
    rename_i r0 a
    obtain ⟨hb, hg⟩ := gc_bif hg
    obtain rfl := Nat.eq_of_beq_eq_true hb
    obtain rfl := Option.some.inj hg
    exact gc_metG (maxL := 2) (lf := true) hl gc_pnX12 rfl gb_oX12 gc_rk_X12_no gb_nX12 hM gc_ck_X12_no (t_X12_no a σ _ (e_X12_no a σ)) gc_hoI rfl (fun v hv => by cases hv; exact Or.inl rfl) (Nat.le_of_ble_eq_true rfl) rfl
  · cases hg
theorem gc_rk_X12_in : cl_X12_in.all (gb_rk gb_flX12 gb_slX12 gb_nlX12 gb_llX12 gb_tlX12 cX12_in) = true := by decide +kernel
theorem gc_ck_X12_in : cl_X12_in.all (gc_ck gb_lkX12 gb_lnX12 [] 0) = true := by decide +kernel
theorem gm_10 (hl : l.stackTraces = false) : gc_MM l D cA ad A adV 10 := by
  refine ⟨gb_T10, fun h => absurd h (by decide +kernel), fun as σ o hg => ?_⟩
  have hM : ∀ mid ∈ ([] : List Nat), gc_MM l D cA ad A adV mid := (fun _ h => nomatch h)
  replace hg : c_X12_in as gaSH σ some = some o := hg
  unfold c_X12_in at hg
  split at hg
  · skip
    rename_i a b c
    obtain rfl := Option.some.inj hg
    exact gc_metP (maxL := 6) (lf := false) hl gc_pnX12 rfl gb_oX12 gc_rk_X12_in gb_nX12 hM gc_ck_X12_in (t_X12_in a b c σ _ (e_X12_in a b c σ)) gd_hoI rfl (fun v hv => by cases hv; exact Or.inr ⟨rfl, z_X12_in a b c σ⟩) (Nat.le_of_ble_eq_true rfl) rfl
  · cases hg
theorem gc_rk_X7_becomeEmpty : cl_X7_becomeEmpty.all (gb_rk gb_flX7 gb_slX7 gb_nlX7 gb_llX7 gb_tlX7 cX7_becomeEmpty) = true := by decide +kernel
theorem gc_ck_X7_becomeEmpty : cl_X7_becomeEmpty.all (gc_ck gb_lkX7 gb_lnX7 [] 0) = true := by decide +kernel
theorem gm_12 (hl : l.stackTraces = false) : gc_MM l D cA ad A adV 12 := by
  refine ⟨gb_T12, fun h => absurd h (by decide +kernel), fun as σ o hg => ?_⟩
  have hM : ∀ mid ∈ ([] : List Nat), gc_MM l D cA ad A adV mid := (fun _ h => nomatch h)
  replace hg : c_X7_becomeEmpty as gaSH σ some = some o := hg
  unfold c_X7_becomeEmpty at hg
  split at hg
  · skip
    rename_i r0
    rcases gc_bif2 hg with ⟨hb, hg⟩ | hg
    · skip
      obtain rfl := Nat.eq_of_beq_eq_true hb
      obtain rfl := Option.some.inj hg
      exact gc_metG (maxL := 1) (lf := true) hl gc_pnX7 rfl gb_oX7 gc_rk_X7_becomeEmpty gb_nX7 hM gc_ck_X7_becomeEmpty (t_X7_becomeEmpty_49 σ _ (e_X7_becomeEmpty_49 σ)) gc_hoV rfl (fun v hv => by cases hv; rfl) (Nat.le_of_ble_eq_true rfl) rfl
    · skip
      obtain ⟨hb, hg⟩ := gc_bif hg
      obtain rfl := Nat.eq_of_beq_eq_true hb
      obtain rfl := Option.some.inj hg
      exact gc_metG (maxL := 1) (lf := true) hl gc_pnX7 rfl gb_oX7 gc_rk_X7_becomeEmpty gb_nX7 hM gc_ck_X7_becomeEmpty (t_X7_becomeEmpty σ _ (e_X7_becomeEmpty σ)) gc_hoV rfl (fun v hv => by cases hv; rfl) (Nat.le_of_ble_eq_true rfl) rfl
  · cases hg
theorem gc_rk_X10_isLetter : cl_X10_isLetter.all (gb_rk gb_flX10 gb_slX10 gb_nlX10 gb_llX10 gb_tlX10 cX10_isLetter) = true := by decide +kernel
theorem gc_ck_X10_isLetter : cl_X10_isLetter.all (gc_ck gb_lkX10 gb_lnX10 [] 0) = true := by decide +kernel
theorem gm_14 (hl : l.stackTraces = false) : gc_MM l D cA ad A adV 14 := by
  refine ⟨gb_T14, fun h => absurd h (by decide +kernel), fun as σ o hg => ?_⟩
  have hM : ∀ mid ∈ ([] : List Nat), gc_MM l D cA ad A adV mid := (fun _ h => nomatch h)
  replace hg : c_X10_isLetter as gaSH σ some = some o := hg
  unfold c_X10_isLetter at hg
  split at hg
  · skip
    rename_i a
    obtain rfl := Option.some.inj hg
    exact gc_metP (maxL := 1) (lf := true) hl gc_pnX10 rfl gb_oX10 gc_rk_X10_isLetter gb_nX10 hM gc_ck_X10_isLetter (t_X10_isLetter a σ _ (e_X10_isLetter a σ)) gd_hoI rfl (fun v hv => by cases hv; exact Or.inr ⟨rfl, z_X10_isLetter a σ⟩) (Nat.le_of_ble_eq_true rfl) rfl
  · cases hg
theorem gc_rk_X10_isDigit : cl_X10_isDigit.all (gb_rk gb_flX10 gb_slX10 gb_nlX10 gb_llX10 gb_tlX10 cX10_isDigit) = true := by decide +kernel
theorem gc_ck_X10_isDigit : cl_X10_isDigit.all (gc_ck gb_lkX10 gb_lnX10 [] 0) = true := by decide +kernel
theorem gm_15 (hl : l.stackTraces = false) : gc_MM l D cA ad A adV 15 := by
  refine ⟨gb_T15, fun h => absurd h (by decide +kernel), fun as σ o hg => ?_⟩
  have hM : ∀ mid ∈ ([] : List Nat), gc_MM l D cA ad A adV mid := (fun _ h => nomatch h)
  replace hg : c_X10_isDigit as gaSH σ some = some o := hg
  unfold c_X10_isDigit at hg
  split at hg
  · skip
    rename_i a
    obtain rfl := Option.some.inj hg
    exact gc_metP (maxL := 1) (lf := true) hl gc_pnX10 rfl gb_oX10 gc_rk_X10_isDigit gb_nX10 hM gc_ck_X10_isDigit (t_X10_isDigit a σ _ (e_X10_isDigit a σ)) gd_hoI rfl (fun v hv => by cases hv; exact Or.inr ⟨rfl, z_X10_isDigit a σ⟩) (Nat.le_of_ble_eq_true rfl) rfl
  · cases hg
theorem gc_rk_X10_fail : cl_X10_fail.all (gb_rk gb_flX10 gb_slX10 gb_nlX10 gb_llX10 gb_tlX10 cX10_fail) = true := by decide +kernel
theorem gc_ck_X10_fail : cl_X10_fail.all (gc_ck gb_lkX10 gb_lnX10 [] 0) = true := by decide +kernel
theorem gm_22 (hl : l.stackTraces = false) : gc_MM l D cA ad A adV 22 := by
  refine ⟨gb_T22, fun h => absurd h (by decide +kernel), fun as σ o hg => ?_⟩
  have hM : ∀ mid ∈ ([] : List Nat), gc_MM l D cA ad A adV mid := (fun _ h => nomatch h)
  replace hg : c_X10_fail as gaSH σ some = some o := hg
  unfold c_X10_fail at hg
  split at hg
  · skip
    rename_i r0 a b
    obtain ⟨hb, hg⟩ := gc_bif hg
    obtain rfl := Nat.eq_of_beq_eq_true hb
    obtain rfl := Option.some.inj hg
    exact gc_metG (maxL := 3) (lf := true) hl gc_pnX10 rfl gb_oX10 gc_rk_X10_fail gb_nX10 hM gc_ck_X10_fail (t_X10_fail a b σ _ (e_X10_fail a b σ)) gc_hoI rfl (fun v hv => by cases hv; exact Or.inr ⟨rfl, z_X10_fail a b σ⟩) (Nat.le_of_ble_eq_true rfl) rfl
  · cases hg
theorem gc_rk_X11_hasBit : cl_X11_hasBit.all (gb_rk gb_flX11 gb_slX11 gb_nlX11 gb_llX11 gb_tlX11 cX11_hasBit) = true := by decide +kernel
theorem gc_ck_X11_hasBit : cl_X11_hasBit.all (gc_ck gb_lkX11 gb_lnX11 [] 0) = true := by decide +kernel
theorem gm_32 (hl : l.stackTraces = false) : gc_MM l D cA ad A adV 32 := by
  refine ⟨gb_T32, fun h => absurd h (by decide +kernel), fun as σ o hg => ?_⟩
  have hM : ∀ mid ∈ ([] : List Nat), gc_MM l D cA ad A adV mid := (fun _ h => nomatch h)
  replace hg : c_X11_hasBit as gaSH σ some = some o := hg
  unfold c_X11_hasBit at hg
  split at hg
  · skip
    rename_i a b
    obtain rfl := Option.some.inj hg
    exact gc_metP (maxL := 2) (lf := true) hl gc_pnX11 rfl gb_oX11 gc_rk_X11_hasBit gb_nX11 hM gc_ck_X11_hasBit (t_X11_hasBit a b σ _ (e_X11_hasBit a b σ)) gd_hoI rfl (fun v hv => by cases hv; exact Or.inr ⟨rfl, z_X11_hasBit a b σ⟩) (Nat.le_of_ble_eq_true rfl) rfl
  · cases hg
end
