noncomputable section
section GQ0
variable {l : Launch} {D : va_G} {cA : Nat → ClassId} {ad : Nat → Nat} {A : Nat → Prop} {adV : Nat → Nat}
theorem gq_nmX0 : gb_Nm RX0 := by unfold gb_Nm; decide +kernel
theorem gq_pnX0 : plainName RX0 = true := by decide +kernel
theorem gq_nmX1 : gb_Nm RX1 := by unfold gb_Nm; decide +kernel
theorem gq_pnX1 : plainName RX1 = true := by decide +kernel
theorem gq_nmX10 : gb_Nm RX10 := by unfold gb_Nm; decide +kernel
theorem gq_pnX10 : plainName RX10 = true := by decide +kernel
theorem gq_nmX11 : gb_Nm RX11 := by unfold gb_Nm; decide +kernel
theorem gq_pnX11 : plainName RX11 = true := by decide +kernel
theorem gq_nmX2 : gb_Nm RX2 := by unfold gb_Nm; decide +kernel
theorem gq_pnX2 : plainName RX2 = true := by decide +kernel
theorem gq_nmX3 : gb_Nm RX3 := by unfold gb_Nm; decide +kernel
theorem gq_pnX3 : plainName RX3 = true := by decide +kernel
theorem gq_nmX4 : gb_Nm RX4 := by unfold gb_Nm; decide +kernel
theorem gq_pnX4 : plainName RX4 = true := by decide +kernel
theorem gq_nmX5 : gb_Nm RX5 := by unfold gb_Nm; decide +kernel
theorem gq_pnX5 : plainName RX5 = true := by decide +kernel
theorem gq_nmX6 : gb_Nm RX6 := by unfold gb_Nm; decide +kernel
theorem gq_pnX6 : plainName RX6 = true := by decide +kernel
theorem gq_nmX7 : gb_Nm RX7 := by unfold gb_Nm; decide +kernel
theorem gq_pnX7 : plainName RX7 = true := by decide +kernel
theorem gq_nmX8 : gb_Nm RX8 := by unfold gb_Nm; decide +kernel
theorem gq_pnX8 : plainName RX8 = true := by decide +kernel
theorem gq_nmX9 : gb_Nm RX9 := by unfold gb_Nm; decide +kernel
theorem gq_pnX9 : plainName RX9 = true := by decide +kernel
theorem gq_rk_X6_init : cl_X6_init.all (gk_rk RX6 gb_flX6 gb_slX6 gb_nlX6 gb_llX6 gb_tlX6 gk_nwX6 gk_oiX6 cX6_init) = true := by decide +kernel
theorem gq_nt_X6_init : cl_X6_init.all gk_nt = true := by decide +kernel
theorem gq_cr_X6_init : cl_X6_init.all (gk_cr []) = true := by decide +kernel
theorem gq_X6_init (hl : l.stackTraces = false) {as : List Value} {S : ga_S} {σ : ga_M} {o : ga_O} (hg : gaK ga_O 451 as S σ some = some o) : gb_C l D cA ad A adV yX6_init (gb_ws yX6_init cX6_init 2 none) 0 (gaCostK 451).1 (gaCostK 451).2 as S σ o ∧ ∃ b as', as = .ref b :: as' := by
  have hr : ∀ r ∈ ([] : List (Instr × Nat × Nat × List (Int32 × Nat))), gb_Lk l D cA ad A adV gaK gaCostK (fun _ _ => True) RX6 0 r.1 r.2.1 r.2.2.1 r.2.2.2 := (fun _ h => nomatch h)
  replace hg : ck_X6_init as S σ some = some o := hg
  unfold ck_X6_init at hg
  split at hg
  · rename_i r n
    split at hg
    · rename_i h1
      obtain ⟨hb, hg⟩ := gc_bif hg
      obtain ⟨hb0, hb1⟩ := Bool.and_eq_true_iff.mp hb
      obtain ⟨hb1, hb2⟩ := Bool.and_eq_true_iff.mp hb1
      obtain rfl := Option.some.inj hg
      exact ⟨gk_met (maxL := 2) (lf := true) gq_pnX6 rfl rfl gb_oX6 gk_oX6 gk_wd gq_rk_X6_init gq_nt_X6_init (gk_hlk hr gq_cr_X6_init) (tk_X6_init h1 (of_decide_eq_true hb0) (Nat.le_of_ble_eq_true hb1) (Nat.le_of_ble_eq_true hb2) σ) ge_Kg (Nat.le_of_ble_eq_true rfl) rfl, _, _, rfl⟩
    · cases hg
  · cases hg
theorem gq_rk_X4_init : cl_X4_init.all (gk_rk RX4 gb_flX4 gb_slX4 gb_nlX4 gb_llX4 gb_tlX4 gk_nwX4 gk_oiX4 cX4_init) = true := by decide +kernel
theorem gq_nt_X4_init : cl_X4_init.all gk_nt = true := by decide +kernel
theorem gq_cr_X4_init : cl_X4_init.all (gk_cr []) = true := by decide +kernel
theorem gq_X4_init (hl : l.stackTraces = false) {as : List Value} {S : ga_S} {σ : ga_M} {o : ga_O} (hg : gaK ga_O 449 as S σ some = some o) : gb_C l D cA ad A adV yX4_init (gb_ws yX4_init cX4_init 3 none) 0 (gaCostK 449).1 (gaCostK 449).2 as S σ o ∧ ∃ b as', as = .ref b :: as' := by
  have hr : ∀ r ∈ ([] : List (Instr × Nat × Nat × List (Int32 × Nat))), gb_Lk l D cA ad A adV gaK gaCostK (fun _ _ => True) RX4 0 r.1 r.2.1 r.2.2.1 r.2.2.2 := (fun _ h => nomatch h)
  replace hg : ck_X4_init as S σ some = some o := hg
  unfold ck_X4_init at hg
  split at hg
  · rename_i r0 r1 r2
    obtain ⟨hb, k9⟩ := gc_bif hg
    obtain ⟨hb0, hc0⟩ := Bool.and_eq_true_iff.mp hb
    obtain ⟨hb1, hc1⟩ := Bool.and_eq_true_iff.mp hc0
    obtain ⟨hb2, hc2⟩ := Bool.and_eq_true_iff.mp hc1
    have e0 := Nat.eq_of_beq_eq_true hb0
    subst e0
    have e1 := Nat.eq_of_beq_eq_true hb1
    subst e1
    have e2 := Nat.eq_of_beq_eq_true hb2
    subst e2
    have eS := gk_eq_eq hc2
    subst eS
    have eo := Option.some.inj k9
    subst eo
    exact ⟨gk_met (maxL := 3) (lf := true) gq_pnX4 rfl rfl gb_oX4 gk_oX4 gk_wd gq_rk_X4_init gq_nt_X4_init (gk_hlk hr gq_cr_X4_init) (tk_X4_init_31 σ) ge_Kg (Nat.le_of_ble_eq_true rfl) rfl, _, _, rfl⟩
  · cases hg
theorem gq_rk_X2_init : cl_X2_init.all (gk_rk RX2 gb_flX2 gb_slX2 gb_nlX2 gb_llX2 gb_tlX2 gk_nwX2 gk_oiX2 cX2_init) = true := by decide +kernel
theorem gq_nt_X2_init : cl_X2_init.all gk_nt = true := by decide +kernel
theorem gq_cr_X2_init : cl_X2_init.all (gk_cr []) = true := by decide +kernel
theorem gq_X2_init (hl : l.stackTraces = false) {as : List Value} {S : ga_S} {σ : ga_M} {o : ga_O} (hg : gaK ga_O 447 as S σ some = some o) : gb_C l D cA ad A adV yX2_init (gb_ws yX2_init cX2_init 5 none) 0 (gaCostK 447).1 (gaCostK 447).2 as S σ o ∧ ∃ b as', as = .ref b :: as' := by
  have hr : ∀ r ∈ ([] : List (Instr × Nat × Nat × List (Int32 × Nat))), gb_Lk l D cA ad A adV gaK gaCostK (fun _ _ => True) RX2 0 r.1 r.2.1 r.2.2.1 r.2.2.2 := (fun _ h => nomatch h)
  replace hg : ck_X2_init as S σ some = some o := hg
  unfold ck_X2_init at hg
  split at hg
  · rename_i r0 r1 r2 r3 r4
    obtain ⟨hb, k9⟩ := gc_bif hg
    obtain ⟨hb0, hc0⟩ := Bool.and_eq_true_iff.mp hb
    obtain ⟨hb1, hc1⟩ := Bool.and_eq_true_iff.mp hc0
    obtain ⟨hb2, hc2⟩ := Bool.and_eq_true_iff.mp hc1
    obtain ⟨hb3, hc3⟩ := Bool.and_eq_true_iff.mp hc2
    obtain ⟨hb4, hc4⟩ := Bool.and_eq_true_iff.mp hc3
    have e0 := Nat.eq_of_beq_eq_true hb0
    subst e0
    have e1 := Nat.eq_of_beq_eq_true hb1
    subst e1
    have e2 := Nat.eq_of_beq_eq_true hb2
    subst e2
    have e3 := Nat.eq_of_beq_eq_true hb3
    subst e3
    have e4 := Nat.eq_of_beq_eq_true hb4
    subst e4
    have eS := gk_eq_eq hc4
    subst eS
    have eo := Option.some.inj k9
    subst eo
    exact ⟨gk_met (maxL := 5) (lf := true) gq_pnX2 rfl rfl gb_oX2 gk_oX2 gk_wd gq_rk_X2_init gq_nt_X2_init (gk_hlk hr gq_cr_X2_init) (tk_X2_init_41 σ) ge_Kg (Nat.le_of_ble_eq_true rfl) rfl, _, _, rfl⟩
  · cases hg
theorem gq_rk_X9_init : cl_X9_init.all (gk_rk RX9 gb_flX9 gb_slX9 gb_nlX9 gb_llX9 gb_tlX9 gk_nwX9 gk_oiX9 cX9_init) = true := by decide +kernel
theorem gq_nt_X9_init : cl_X9_init.all gk_nt = true := by decide +kernel
theorem gq_cr_X9_init : cl_X9_init.all (gk_cr []) = true := by decide +kernel
theorem gq_X9_init (hl : l.stackTraces = false) {as : List Value} {S : ga_S} {σ : ga_M} {o : ga_O} (hg : gaK ga_O 454 as S σ some = some o) : gb_C l D cA ad A adV yX9_init (gb_ws yX9_init cX9_init 2 none) 0 (gaCostK 454).1 (gaCostK 454).2 as S σ o ∧ ∃ b as', as = .ref b :: as' := by
  have hr : ∀ r ∈ ([] : List (Instr × Nat × Nat × List (Int32 × Nat))), gb_Lk l D cA ad A adV gaK gaCostK (fun _ _ => True) RX9 0 r.1 r.2.1 r.2.2.1 r.2.2.2 := (fun _ h => nomatch h)
  replace hg : ck_X9_init as S σ some = some o := hg
  unfold ck_X9_init at hg
  split at hg
  · rename_i r0 r1
    obtain ⟨hb, k9⟩ := gc_bif hg
    obtain ⟨hb0, hc0⟩ := Bool.and_eq_true_iff.mp hb
    obtain ⟨hb1, hc1⟩ := Bool.and_eq_true_iff.mp hc0
    have e0 := Nat.eq_of_beq_eq_true hb0
    subst e0
    have e1 := Nat.eq_of_beq_eq_true hb1
    subst e1
    have eS := gk_eq_eq hc1
    subst eS
    have eo := Option.some.inj k9
    subst eo
    exact ⟨gk_met (maxL := 2) (lf := true) gq_pnX9 rfl rfl gb_oX9 gk_oX9 gk_wd gq_rk_X9_init gq_nt_X9_init (gk_hlk hr gq_cr_X9_init) (tk_X9_init_68 σ) ge_Kg (Nat.le_of_ble_eq_true rfl) rfl, _, _, rfl⟩
  · cases hg
theorem gq_rk_X7_init : cl_X7_init.all (gk_rk RX7 gb_flX7 gb_slX7 gb_nlX7 gb_llX7 gb_tlX7 gk_nwX7 gk_oiX7 cX7_init) = true := by decide +kernel
theorem gq_nt_X7_init : cl_X7_init.all gk_nt = true := by decide +kernel
theorem gq_cr_X7_init : cl_X7_init.all (gk_cr [(.invokespecial 11, 451, 2, [])]) = true := by decide +kernel
theorem gq_X7_init (hl : l.stackTraces = false) {as : List Value} {S : ga_S} {σ : ga_M} {o : ga_O} (hg : gaK ga_O 452 as S σ some = some o) : gb_C l D cA ad A adV yX7_init (gb_ws yX7_init cX7_init 1 none) 1 (gaCostK 452).1 (gaCostK 452).2 as S σ o ∧ ∃ b as', as = .ref b :: as' := by
  have hr : ∀ r ∈ ([(.invokespecial 11, 451, 2, [])] : List (Instr × Nat × Nat × List (Int32 × Nat))), gb_Lk l D cA ad A adV gaK gaCostK (fun _ _ => True) RX7 1 r.1 r.2.1 r.2.2.1 r.2.2.2 := (List.forall_mem_cons.mpr ⟨gk_LkI (lv := 0) (n := 1) (maxL := 2) (by decide) (by decide) gq_nmX6 (gb_w1 3 rfl rfl) (by decide +kernel) (gb_w1 43 rfl rfl) (fun as S σ o hg => gq_X6_init hl hg) rfl rfl (Or.inl (gb_w1 41 rfl rfl)) (gb_w1 42 rfl rfl), fun _ h => nomatch h⟩)
  replace hg : ck_X7_init as S σ some = some o := hg
  unfold ck_X7_init at hg
  split at hg
  · rename_i r0
    rcases gc_bif2 hg with ⟨hb, k9⟩ | hr1
    · skip
      obtain ⟨hb0, hc0⟩ := Bool.and_eq_true_iff.mp hb
      have e0 := Nat.eq_of_beq_eq_true hb0
      subst e0
      have eS := gk_eq_eq hc0
      subst eS
      have eo := Option.some.inj k9
      subst eo
      exact ⟨gk_met (maxL := 1) (lf := true) gq_pnX7 rfl rfl gb_oX7 gk_oX7 gk_wd gq_rk_X7_init gq_nt_X7_init (gk_hlk hr gq_cr_X7_init) (tk_X7_init_1 σ) ge_Kg (Nat.le_of_ble_eq_true rfl) rfl, _, _, rfl⟩
    · skip
      obtain ⟨hb, k9⟩ := gc_bif hr1
      obtain ⟨hb0, hc0⟩ := Bool.and_eq_true_iff.mp hb
      have e0 := Nat.eq_of_beq_eq_true hb0
      subst e0
      have eS := gk_eq_eq hc0
      subst eS
      have eo := Option.some.inj k9
      subst eo
      exact ⟨gk_met (maxL := 1) (lf := true) gq_pnX7 rfl rfl gb_oX7 gk_oX7 gk_wd gq_rk_X7_init gq_nt_X7_init (gk_hlk hr gq_cr_X7_init) (tk_X7_init_49 σ) ge_Kg (Nat.le_of_ble_eq_true rfl) rfl, _, _, rfl⟩
  · cases hg
theorem gq_rk_X3_init : cl_X3_init.all (gk_rk RX3 gb_flX3 gb_slX3 gb_nlX3 gb_llX3 gb_tlX3 gk_nwX3 gk_oiX3 cX3_init) = true := by decide +kernel
theorem gq_nt_X3_init : cl_X3_init.all gk_nt = true := by decide +kernel
theorem gq_cr_X3_init : cl_X3_init.all (gk_cr [(.invokespecial 11, 451, 2, [])]) = true := by decide +kernel
theorem gq_X3_init (hl : l.stackTraces = false) {as : List Value} {S : ga_S} {σ : ga_M} {o : ga_O} (hg : gaK ga_O 448 as S σ some = some o) : gb_C l D cA ad A adV yX3_init (gb_ws yX3_init cX3_init 2 none) 1 (gaCostK 448).1 (gaCostK 448).2 as S σ o ∧ ∃ b as', as = .ref b :: as' := by
  have hr : ∀ r ∈ ([(.invokespecial 11, 451, 2, [])] : List (Instr × Nat × Nat × List (Int32 × Nat))), gb_Lk l D cA ad A adV gaK gaCostK (fun _ _ => True) RX3 1 r.1 r.2.1 r.2.2.1 r.2.2.2 := (List.forall_mem_cons.mpr ⟨gk_LkI (lv := 0) (n := 1) (maxL := 2) (by decide) (by decide) gq_nmX6 (gb_w1 3 rfl rfl) (by decide +kernel) (gb_w1 43 rfl rfl) (fun as S σ o hg => gq_X6_init hl hg) rfl rfl (Or.inl (gb_w1 180 rfl rfl)) (gb_w1 42 rfl rfl), fun _ h => nomatch h⟩)
  replace hg : ck_X3_init as S σ some = some o := hg
  unfold ck_X3_init at hg
  split at hg
  · rename_i r0 r1
    obtain ⟨hb, k9⟩ := gc_bif hg
    obtain ⟨hb0, hc0⟩ := Bool.and_eq_true_iff.mp hb
    obtain ⟨hb1, hc1⟩ := Bool.and_eq_true_iff.mp hc0
    have e0 := Nat.eq_of_beq_eq_true hb0
    subst e0
    have e1 := Nat.eq_of_beq_eq_true hb1
    subst e1
    have eS := gk_eq_eq hc1
    subst eS
    have eo := Option.some.inj k9
    subst eo
    exact ⟨gk_met (maxL := 2) (lf := true) gq_pnX3 rfl rfl gb_oX3 gk_oX3 gk_wd gq_rk_X3_init gq_nt_X3_init (gk_hlk hr gq_cr_X3_init) (tk_X3_init_20 σ) ge_Kg (Nat.le_of_ble_eq_true rfl) rfl, _, _, rfl⟩
  · cases hg
theorem gq_rk_X0_init : cl_X0_init.all (gk_rk RX0 gb_flX0 gb_slX0 gb_nlX0 gb_llX0 gb_tlX0 gk_nwX0 gk_oiX0 cX0_init) = true := by decide +kernel
theorem gq_nt_X0_init : cl_X0_init.all gk_nt = true := by decide +kernel
theorem gq_cr_X0_init : cl_X0_init.all (gk_cr [(.invokespecial 11, 451, 2, [])]) = true := by decide +kernel
theorem gq_X0_init (hl : l.stackTraces = false) {as : List Value} {S : ga_S} {σ : ga_M} {o : ga_O} (hg : gaK ga_O 445 as S σ some = some o) : gb_C l D cA ad A adV yX0_init (gb_ws yX0_init cX0_init 3 none) 1 (gaCostK 445).1 (gaCostK 445).2 as S σ o ∧ ∃ b as', as = .ref b :: as' := by
  have hr : ∀ r ∈ ([(.invokespecial 11, 451, 2, [])] : List (Instr × Nat × Nat × List (Int32 × Nat))), gb_Lk l D cA ad A adV gaK gaCostK (fun _ _ => True) RX0 1 r.1 r.2.1 r.2.2.1 r.2.2.2 := (List.forall_mem_cons.mpr ⟨gk_LkI (lv := 0) (n := 1) (maxL := 2) (by decide) (by decide) gq_nmX6 (gb_w1 3 rfl rfl) (by decide +kernel) (gb_w1 43 rfl rfl) (fun as S σ o hg => gq_X6_init hl hg) rfl rfl (Or.inl (gb_w2 27 rfl rfl)) (gb_w1 42 rfl rfl), fun _ h => nomatch h⟩)
  replace hg : ck_X0_init as S σ some = some o := hg
  unfold ck_X0_init at hg
  split at hg
  · rename_i r0 r1 r2
    obtain ⟨hb, k9⟩ := gc_bif hg
    obtain ⟨hb0, hc0⟩ := Bool.and_eq_true_iff.mp hb
    obtain ⟨hb1, hc1⟩ := Bool.and_eq_true_iff.mp hc0
    obtain ⟨hb2, hc2⟩ := Bool.and_eq_true_iff.mp hc1
    have e0 := Nat.eq_of_beq_eq_true hb0
    subst e0
    have e1 := Nat.eq_of_beq_eq_true hb1
    subst e1
    have e2 := Nat.eq_of_beq_eq_true hb2
    subst e2
    have eS := gk_eq_eq hc2
    subst eS
    have eo := Option.some.inj k9
    subst eo
    exact ⟨gk_met (maxL := 3) (lf := true) gq_pnX0 rfl rfl gb_oX0 gk_oX0 gk_wd gq_rk_X0_init gq_nt_X0_init (gk_hlk hr gq_cr_X0_init) (tk_X0_init_32 σ) ge_Kg (Nat.le_of_ble_eq_true rfl) rfl, _, _, rfl⟩
  · cases hg
theorem gq_rk_X1_init : cl_X1_init.all (gk_rk RX1 gb_flX1 gb_slX1 gb_nlX1 gb_llX1 gb_tlX1 gk_nwX1 gk_oiX1 cX1_init) = true := by decide +kernel
theorem gq_nt_X1_init : cl_X1_init.all gk_nt = true := by decide +kernel
theorem gq_cr_X1_init : cl_X1_init.all (gk_cr [(.invokespecial 13, 451, 2, [])]) = true := by decide +kernel
theorem gq_X1_init (hl : l.stackTraces = false) {as : List Value} {S : ga_S} {σ : ga_M} {o : ga_O} (hg : gaK ga_O 446 as S σ some = some o) : gb_C l D cA ad A adV yX1_init (gb_ws yX1_init cX1_init 2 none) 1 (gaCostK 446).1 (gaCostK 446).2 as S σ o ∧ ∃ b as', as = .ref b :: as' := by
  have hr : ∀ r ∈ ([(.invokespecial 13, 451, 2, [])] : List (Instr × Nat × Nat × List (Int32 × Nat))), gb_Lk l D cA ad A adV gaK gaCostK (fun _ _ => True) RX1 1 r.1 r.2.1 r.2.2.1 r.2.2.2 := (List.forall_mem_cons.mpr ⟨gk_LkI (lv := 0) (n := 1) (maxL := 2) (by decide) (by decide) gq_nmX6 (gb_w1 3 rfl rfl) (by decide +kernel) (gb_w1 43 rfl rfl) (fun as S σ o hg => gq_X6_init hl hg) rfl rfl (Or.inl (gb_w2 79 rfl rfl)) (gb_w1 42 rfl rfl), fun _ h => nomatch h⟩)
  replace hg : ck_X1_init as S σ some = some o := hg
  unfold ck_X1_init at hg
  split at hg
  · rename_i r0 r1
    obtain ⟨hb, k9⟩ := gc_bif hg
    obtain ⟨hb0, hc0⟩ := Bool.and_eq_true_iff.mp hb
    obtain ⟨hb1, hc1⟩ := Bool.and_eq_true_iff.mp hc0
    have e0 := Nat.eq_of_beq_eq_true hb0
    subst e0
    have e1 := Nat.eq_of_beq_eq_true hb1
    subst e1
    have eS := gk_eq_eq hc1
    subst eS
    have eo := Option.some.inj k9
    subst eo
    exact ⟨gk_met (maxL := 2) (lf := true) gq_pnX1 rfl rfl gb_oX1 gk_oX1 gk_wd gq_rk_X1_init gq_nt_X1_init (gk_hlk hr gq_cr_X1_init) (tk_X1_init_42 σ) ge_Kg (Nat.le_of_ble_eq_true rfl) rfl, _, _, rfl⟩
  · cases hg
theorem gq_rk_X10_init : cl_X10_init.all (gk_rk RX10 gb_flX10 gb_slX10 gb_nlX10 gb_llX10 gb_tlX10 gk_nwX10 gk_oiX10 cX10_init) = true := by decide +kernel
theorem gq_nt_X10_init : cl_X10_init.all gk_nt = true := by decide +kernel
theorem gq_cr_X10_init : cl_X10_init.all (gk_cr [(.invokespecial 11, 451, 2, [])]) = true := by decide +kernel
theorem gq_X10_init (hl : l.stackTraces = false) {as : List Value} {S : ga_S} {σ : ga_M} {o : ga_O} (hg : gaK ga_O 455 as S σ some = some o) : gb_C l D cA ad A adV yX10_init (gb_ws yX10_init cX10_init 1 none) 1 (gaCostK 455).1 (gaCostK 455).2 as S σ o ∧ ∃ b as', as = .ref b :: as' := by
  have hr : ∀ r ∈ ([(.invokespecial 11, 451, 2, [])] : List (Instr × Nat × Nat × List (Int32 × Nat))), gb_Lk l D cA ad A adV gaK gaCostK (fun _ _ => True) RX10 1 r.1 r.2.1 r.2.2.1 r.2.2.2 := (List.forall_mem_cons.mpr ⟨gk_LkI (lv := 0) (n := 1) (maxL := 2) (by decide) (by decide) gq_nmX6 (gb_w1 3 rfl rfl) (by decide +kernel) (gb_w1 43 rfl rfl) (fun as S σ o hg => gq_X6_init hl hg) rfl rfl (Or.inl (gb_w2 101 rfl rfl)) (gb_w1 42 rfl rfl), fun _ h => nomatch h⟩)
  replace hg : ck_X10_init as S σ some = some o := hg
  unfold ck_X10_init at hg
  split at hg
  · rename_i r0
    obtain ⟨hb, k9⟩ := gc_bif hg
    obtain ⟨hb0, hc0⟩ := Bool.and_eq_true_iff.mp hb
    have e0 := Nat.eq_of_beq_eq_true hb0
    subst e0
    have eS := gk_eq_eq hc0
    subst eS
    have eo := Option.some.inj k9
    subst eo
    exact ⟨gk_met (maxL := 1) (lf := true) gq_pnX10 rfl rfl gb_oX10 gk_oX10 gk_wd gq_rk_X10_init gq_nt_X10_init (gk_hlk hr gq_cr_X10_init) (tk_X10_init_45 σ) ge_Kg (Nat.le_of_ble_eq_true rfl) rfl, _, _, rfl⟩
  · cases hg
theorem gq_rk_X5_init : cl_X5_init.all (gk_rk RX5 gb_flX5 gb_slX5 gb_nlX5 gb_llX5 gb_tlX5 gk_nwX5 gk_oiX5 cX5_init) = true := by decide +kernel
theorem gq_nt_X5_init : cl_X5_init.all gk_nt = true := by decide +kernel
theorem gq_cr_X5_init : cl_X5_init.all (gk_cr [(.invokespecial 13, 451, 2, [])]) = true := by decide +kernel
theorem gq_X5_init (hl : l.stackTraces = false) {as : List Value} {S : ga_S} {σ : ga_M} {o : ga_O} (hg : gaK ga_O 450 as S σ some = some o) : gb_C l D cA ad A adV yX5_init (gb_ws yX5_init cX5_init 3 none) 1 (gaCostK 450).1 (gaCostK 450).2 as S σ o ∧ ∃ b as', as = .ref b :: as' := by
  have hr : ∀ r ∈ ([(.invokespecial 13, 451, 2, [])] : List (Instr × Nat × Nat × List (Int32 × Nat))), gb_Lk l D cA ad A adV gaK gaCostK (fun _ _ => True) RX5 1 r.1 r.2.1 r.2.2.1 r.2.2.2 := (List.forall_mem_cons.mpr ⟨gk_LkI (lv := 0) (n := 1) (maxL := 2) (by decide) (by decide) gq_nmX6 (gb_w1 3 rfl rfl) (by decide +kernel) (gb_w1 43 rfl rfl) (fun as S σ o hg => gq_X6_init hl hg) rfl rfl (Or.inl (gb_w2 172 rfl rfl)) (gb_w1 42 rfl rfl), fun _ h => nomatch h⟩)
  replace hg : ck_X5_init as S σ some = some o := hg
  unfold ck_X5_init at hg
  split at hg
  · rename_i r0 r1 r2
    obtain ⟨hb, k9⟩ := gc_bif hg
    obtain ⟨hb0, hc0⟩ := Bool.and_eq_true_iff.mp hb
    obtain ⟨hb1, hc1⟩ := Bool.and_eq_true_iff.mp hc0
    obtain ⟨hb2, hc2⟩ := Bool.and_eq_true_iff.mp hc1
    have e0 := Nat.eq_of_beq_eq_true hb0
    subst e0
    have e1 := Nat.eq_of_beq_eq_true hb1
    subst e1
    have e2 := Nat.eq_of_beq_eq_true hb2
    subst e2
    have eS := gk_eq_eq hc2
    subst eS
    have eo := Option.some.inj k9
    subst eo
    exact ⟨gk_met (maxL := 3) (lf := true) gq_pnX5 rfl rfl gb_oX5 gk_oX5 gk_wd gq_rk_X5_init gq_nt_X5_init (gk_hlk hr gq_cr_X5_init) (tk_X5_init_69 σ) ge_Kg (Nat.le_of_ble_eq_true rfl) rfl, _, _, rfl⟩
  · cases hg
theorem gq_rk_X8_init : cl_X8_init.all (gk_rk RX8 gb_flX8 gb_slX8 gb_nlX8 gb_llX8 gb_tlX8 gk_nwX8 gk_oiX8 cX8_init) = true := by decide +kernel
theorem gq_nt_X8_init : cl_X8_init.all gk_nt = true := by decide +kernel
theorem gq_cr_X8_init : cl_X8_init.all (gk_cr [(.invokespecial 11, 452, 1, [])]) = true := by decide +kernel
theorem gq_X8_init (hl : l.stackTraces = false) {as : List Value} {S : ga_S} {σ : ga_M} {o : ga_O} (hg : gaK ga_O 453 as S σ some = some o) : gb_C l D cA ad A adV yX8_init (gb_ws yX8_init cX8_init 2 none) 2 (gaCostK 453).1 (gaCostK 453).2 as S σ o ∧ ∃ b as', as = .ref b :: as' := by
  have hr : ∀ r ∈ ([(.invokespecial 11, 452, 1, [])] : List (Instr × Nat × Nat × List (Int32 × Nat))), gb_Lk l D cA ad A adV gaK gaCostK (fun _ _ => True) RX8 2 r.1 r.2.1 r.2.2.1 r.2.2.2 := (List.forall_mem_cons.mpr ⟨gk_LkI (lv := 1) (n := 0) (maxL := 1) (by decide) (by decide) gq_nmX7 (gb_w1 2 rfl rfl) (by decide +kernel) (gb_w1 37 rfl rfl) (fun as S σ o hg => gq_X7_init hl hg) rfl rfl (Or.inr ⟨_, List.mem_of_getElem? (i := 3) rfl⟩) (gb_w1 36 rfl rfl), fun _ h => nomatch h⟩)
  replace hg : ck_X8_init as S σ some = some o := hg
  unfold ck_X8_init at hg
  split at hg
  · rename_i r0 r1
    obtain ⟨hb, k9⟩ := gc_bif hg
    obtain ⟨hb0, hc0⟩ := Bool.and_eq_true_iff.mp hb
    obtain ⟨hb1, hc1⟩ := Bool.and_eq_true_iff.mp hc0
    have e0 := Nat.eq_of_beq_eq_true hb0
    subst e0
    have e1 := Nat.eq_of_beq_eq_true hb1
    subst e1
    have eS := gk_eq_eq hc1
    subst eS
    have eo := Option.some.inj k9
    subst eo
    exact ⟨gk_met (maxL := 2) (lf := true) gq_pnX8 rfl rfl gb_oX8 gk_oX8 gk_wd gq_rk_X8_init gq_nt_X8_init (gk_hlk hr gq_cr_X8_init) (tk_X8_init_48 σ) ge_Kg (Nat.le_of_ble_eq_true rfl) rfl, _, _, rfl⟩
  · cases hg
theorem gq_rk_X11_init : cl_X11_init.all (gk_rk RX11 gb_flX11 gb_slX11 gb_nlX11 gb_llX11 gb_tlX11 gk_nwX11 gk_oiX11 cX11_init) = true := by decide +kernel
theorem gq_nt_X11_init : cl_X11_init.all gk_nt = true := by decide +kernel
theorem gq_cr_X11_init : cl_X11_init.all (gk_cr [(.invokespecial 9, 452, 1, []), (.invokevirtual 16, 112, 1, [(0, 7)]), (.invokespecial 21, 448, 2, []), (.invokevirtual 28, 47, 1, [(0, 3)]), (.invokespecial 33, 449, 3, []), (.invokespecial 42, 445, 3, []), (.invokespecial 49, 447, 5, []), (.invokespecial 58, 446, 2, []), (.invokespecial 67, 455, 1, []), (.invokespecial 74, 453, 2, []), (.invokespecial 83, 454, 2, []), (.invokespecial 90, 450, 3, [])]) = true := by decide +kernel
theorem gq_X7_becomeSample (hl : l.stackTraces = false) {as : List Value} {S : ga_S} {σ : ga_M} {o : ga_O} (hg : gaK ga_O 112 as S σ some = some o) : gb_C l D cA ad A adV (gb_y 112) (gb_ws (gb_y 112) (gb_b 112) (gb_n 112) (gb_r 112)) (gb_lv 112) (gaCostK 112).1 (gaCostK 112).2 as S σ o := by
  replace hg : ck_X7_becomeSample as S σ some = some o := hg
  unfold ck_X7_becomeSample at hg
  split at hg
  · rename_i r0
    obtain ⟨hb, hg⟩ := gc_bif hg
    obtain ⟨hb0, hb1⟩ := Bool.and_eq_true_iff.mp hb
    obtain rfl := Nat.eq_of_beq_eq_true hb0
    obtain rfl := gk_eq_eq hb1
    exact (gp1_112 hl).2.2 [.ref 1] σ o (show c1_X7_becomeSample [.ref 1] gaS1 σ some = some o from hg)
  · cases hg
theorem gq_X3_begin (hl : l.stackTraces = false) {as : List Value} {S : ga_S} {σ : ga_M} {o : ga_O} (hg : gaK ga_O 47 as S σ some = some o) : gb_C l D cA ad A adV (gb_y 47) (gb_ws (gb_y 47) (gb_b 47) (gb_n 47) (gb_r 47)) (gb_lv 47) (gaCostK 47).1 (gaCostK 47).2 as S σ o := by
  replace hg : ck_X3_begin as S σ some = some o := hg
  unfold ck_X3_begin at hg
  split at hg
  · rename_i r0
    obtain ⟨hb, hg⟩ := gc_bif hg
    obtain ⟨hb0, hb1⟩ := Bool.and_eq_true_iff.mp hb
    obtain rfl := Nat.eq_of_beq_eq_true hb0
    obtain rfl := gk_eq_eq hb1
    exact (gp2_47 hl).2.2 [.ref 20] σ o (show c_X3_begin [.ref 20] gaS2 σ some = some o from hg)
  · cases hg
theorem gq_X11_init (hl : l.stackTraces = false) {as : List Value} {S : ga_S} {σ : ga_M} {o : ga_O} (hg : gaK ga_O 456 as S σ some = some o) : gb_C l D cA ad A adV yX11_init (gb_ws yX11_init cX11_init 1 none) 8 (gaCostK 456).1 (gaCostK 456).2 as S σ o ∧ ∃ b as', as = .ref b :: as' := by
  have hr : ∀ r ∈ ([(.invokespecial 9, 452, 1, []), (.invokevirtual 16, 112, 1, [(0, 7)]), (.invokespecial 21, 448, 2, []), (.invokevirtual 28, 47, 1, [(0, 3)]), (.invokespecial 33, 449, 3, []), (.invokespecial 42, 445, 3, []), (.invokespecial 49, 447, 5, []), (.invokespecial 58, 446, 2, []), (.invokespecial 67, 455, 1, []), (.invokespecial 74, 453, 2, []), (.invokespecial 83, 454, 2, []), (.invokespecial 90, 450, 3, [])] : List (Instr × Nat × Nat × List (Int32 × Nat))), gb_Lk l D cA ad A adV gaK gaCostK (fun _ _ => True) RX11 8 r.1 r.2.1 r.2.2.1 r.2.2.2 := (List.forall_mem_cons.mpr ⟨gk_LkI (lv := 1) (n := 0) (maxL := 1) (by decide) (by decide) gq_nmX7 (gb_w1 2 rfl rfl) (by decide +kernel) (gb_w1 37 rfl rfl) (fun as S σ o hg => gq_X7_init hl hg) rfl rfl (Or.inr ⟨_, List.mem_of_getElem? (i := 0) rfl⟩) (gb_w1 36 rfl rfl), List.forall_mem_cons.mpr ⟨gk_LkV gb_T112 (by decide +kernel) (by decide +kernel) (by decide +kernel) (by decide +kernel) (gb_w1 145 rfl rfl) (fun as S σ o _ hg => gq_X7_becomeSample hl hg), List.forall_mem_cons.mpr ⟨gk_LkI (lv := 1) (n := 1) (maxL := 2) (by decide) (by decide) gq_nmX3 (gb_w1 4 rfl rfl) (by decide +kernel) (gb_w1 177 rfl rfl) (fun as S σ o hg => gq_X3_init hl hg) rfl rfl (Or.inl (gb_w1 175 rfl rfl)) (gb_w1 176 rfl rfl), List.forall_mem_cons.mpr ⟨gk_LkV gb_T47 (by decide +kernel) (by decide +kernel) (by decide +kernel) (by decide +kernel) (gb_w1 219 rfl rfl) (fun as S σ o _ hg => gq_X3_begin hl hg), List.forall_mem_cons.mpr ⟨gk_LkI (lv := 0) (n := 2) (maxL := 3) (by decide) (by decide) gq_nmX4 (gb_w1 5 rfl rfl) (by decide +kernel) (gb_w2 11 rfl rfl) (fun as S σ o hg => gq_X4_init hl hg) rfl rfl (Or.inl (gb_w2 9 rfl rfl)) (gb_w2 10 rfl rfl), List.forall_mem_cons.mpr ⟨gk_LkI (lv := 1) (n := 2) (maxL := 3) (by decide) (by decide) gq_nmX0 (gb_w1 6 rfl rfl) (by decide +kernel) (gb_w2 24 rfl rfl) (fun as S σ o hg => gq_X0_init hl hg) rfl rfl (Or.inl (gb_w2 22 rfl rfl)) (gb_w2 23 rfl rfl), List.forall_mem_cons.mpr ⟨gk_LkI (lv := 0) (n := 4) (maxL := 5) (by decide) (by decide) gq_nmX2 (gb_w1 7 rfl rfl) (by decide +kernel) (gb_w2 57 rfl rfl) (fun as S σ o hg => gq_X2_init hl hg) rfl rfl (Or.inl (gb_w2 55 rfl rfl)) (gb_w2 56 rfl rfl), List.forall_mem_cons.mpr ⟨gk_LkI (lv := 1) (n := 1) (maxL := 2) (by decide) (by decide) gq_nmX1 (gb_w1 8 rfl rfl) (by decide +kernel) (gb_w2 76 rfl rfl) (fun as S σ o hg => gq_X1_init hl hg) rfl rfl (Or.inl (gb_w2 74 rfl rfl)) (gb_w2 75 rfl rfl), List.forall_mem_cons.mpr ⟨gk_LkI (lv := 1) (n := 0) (maxL := 1) (by decide) (by decide) gq_nmX10 (gb_w1 9 rfl rfl) (by decide +kernel) (gb_w2 98 rfl rfl) (fun as S σ o hg => gq_X10_init hl hg) rfl rfl (Or.inr ⟨_, List.mem_of_getElem? (i := 2) rfl⟩) (gb_w2 97 rfl rfl), List.forall_mem_cons.mpr ⟨gk_LkI (lv := 2) (n := 1) (maxL := 2) (by decide) (by decide) gq_nmX8 (gb_w1 10 rfl rfl) (by decide +kernel) (gb_w2 135 rfl rfl) (fun as S σ o hg => gq_X8_init hl hg) rfl rfl (Or.inl (gb_w2 133 rfl rfl)) (gb_w2 134 rfl rfl), List.forall_mem_cons.mpr ⟨gk_LkI (lv := 0) (n := 1) (maxL := 2) (by decide) (by decide) gq_nmX9 (gb_w1 11 rfl rfl) (by decide +kernel) (gb_w2 151 rfl rfl) (fun as S σ o hg => gq_X9_init hl hg) rfl rfl (Or.inl (gb_w2 149 rfl rfl)) (gb_w2 150 rfl rfl), List.forall_mem_cons.mpr ⟨gk_LkI (lv := 1) (n := 2) (maxL := 3) (by decide) (by decide) gq_nmX5 (gb_w1 12 rfl rfl) (by decide +kernel) (gb_w2 169 rfl rfl) (fun as S σ o hg => gq_X5_init hl hg) rfl rfl (Or.inl (gb_w2 167 rfl rfl)) (gb_w2 168 rfl rfl), fun _ h => nomatch h⟩⟩⟩⟩⟩⟩⟩⟩⟩⟩⟩⟩)
  replace hg : ck_X11_init as S σ some = some o := hg
  unfold ck_X11_init at hg
  split at hg
  · rename_i r0
    obtain ⟨hb, k9⟩ := gc_bif hg
    obtain ⟨hb0, hc0⟩ := Bool.and_eq_true_iff.mp hb
    have e0 := Nat.eq_of_beq_eq_true hb0
    subst e0
    have eS := gk_eq_eq hc0
    subst eS
    obtain ⟨⟨S1, s1⟩, hq, k8⟩ := gc_bind k9
    have eo := Option.some.inj k8
    subst eo
    exact ⟨gk_met (maxL := 1) (lf := true) gq_pnX11 rfl rfl gb_oX11 gk_oX11 gk_wd gq_rk_X11_init gq_nt_X11_init (gk_hlk hr gq_cr_X11_init) (tk_X11_init_0 σ _ hq) ge_Kg (Nat.le_of_ble_eq_true rfl) rfl, _, _, rfl⟩
  · cases hg
end GQ0
end
