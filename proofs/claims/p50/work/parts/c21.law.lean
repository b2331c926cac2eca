section E11
/-! ===== the law answers 1 ===== -/
variable {N : Nat → Nat} {Q P : Nat → Nat → Int32} {s : ga_M}
theorem x_freeTeachers (hW : dW N Q P) (h : dC N Q P s) {x : Nat} (hx : x < dSl N) : f_X11_freeTeachers (nI x) s = some (.inl (dMs (fun k => !aAway N P k (nI x) && decide (aAt N P 1 (nI x) (nI k) = -1)) (N 3))) := by
  have hN := hW.1
  have hB := dWN_b hN
  rw [fe_X11_freeTeachers]; unfold fb_X11_freeTeachers
  rw [cS_y hN h hx, Option.elim_none]
  refine (d_fold0 (F := fun n k a => f_X11_freeTeachers_h9 n (nI x) a (nI k) s) (f := dMf (fun k => !aAway N P k (nI x) && decide (aAt N P 1 (nI x) (nI k) = -1))) (g := fun a => some (.inl a)) (N := N 3) (by omega) (fun n k a hk => ?_) (fun n a => ?_) 0)
  · rw [f_X11_freeTeachers_h9, dcN h (show 3 < 7 by omega), if_neg (nI_ge hk (by omega)), dc_isAwayAt hN h hk hx, Option.bind_some]
    unfold dMf
    dsimp only
    rw [nI_1]
    by_cases c1 : aAway N P k (nI x) = true
    · rw [if_neg (show ¬ aB (aAway N P k (nI x)) = 0 from by rw [c1]; decide)]
      simp [c1]
    · have c1 : aAway N P k (nI x) = false := by simpa using c1
      rw [if_pos (show aB (aAway N P k (nI x)) = 0 from by rw [c1]; rfl), dc_lessonAt_23 hN h, Option.bind_some]
      by_cases c2 : aAt N P 1 (nI x) (nI k) = -1 <;> simp [c1, c2]
  · rw [f_X11_freeTeachers_h9, dcN h (show 3 < 7 by omega), if_pos (nI_le (Nat.le_refl _) (by omega))]
theorem x_freeRooms (hW : dW N Q P) (h : dC N Q P s) {x : Nat} (hx : x < dSl N) : f_X11_freeRooms (nI x) 0 s = some (.inl (dMs (fun k => decide (Q 4 k = 0) && decide (aAt N P 2 (nI x) (nI k) = -1)) (N 4))) := by
  have hN := hW.1
  have hB := dWN_b hN
  rw [fe_X11_freeRooms]; unfold fb_X11_freeRooms
  rw [cS_y hN h hx, Option.elim_none, if_neg (by decide), if_pos (by decide)]
  refine (d_fold0 (F := fun n k a => f_X11_freeRooms_h30 n (nI x) 0 a (nI k) s) (f := dMf (fun k => decide (Q 4 k = 0) && decide (aAt N P 2 (nI x) (nI k) = -1))) (g := fun a => some (.inl a)) (N := N 4) (by omega) (fun n k a hk => ?_) (fun n a => ?_) 0)
  · rw [f_X11_freeRooms_h30, dcN h (show 4 < 7 by omega), if_neg (nI_ge hk (by omega)), d_at (show k < 6 by omega) (by omega), dc9 h hk]
    unfold dMf
    dsimp only
    rw [nI_1]
    by_cases c1 : Q 4 k = 0
    · rw [if_pos c1, dc_lessonAt_25 hN h, Option.bind_some]
      by_cases c2 : aAt N P 2 (nI x) (nI k) = -1 <;> simp [c1, c2]
    · rw [if_neg c1]
      simp [c1]
  · rw [f_X11_freeRooms_h30, dcN h (show 4 < 7 by omega), if_pos (nI_le (Nat.le_refl _) (by omega))]
theorem x_windows10 (h : dC kN kQ (dP0 kQ) s) : f_X11_windows 1 0 s = some (.inl 0) := by
  have hN := kN_ok
  have a0 : aAt kN (dP0 kQ) 1 (0 * nI 3 + 0) 1 = -1 := by decide +kernel
  have a1 : aAt kN (dP0 kQ) 1 (0 * nI 3 + (0 + 1)) 1 = 2 := by decide +kernel
  have a2 : aAt kN (dP0 kQ) 1 (0 * nI 3 + (0 + 1 + 1)) 1 = -1 := by decide +kernel
  have e1 : s 1 1 = nI 3 := dcN h (show 1 < 7 by omega)
  have l := fun x => dc_lessonAt_23 (s := s) hN h x 1
  obtain ⟨n, hn⟩ : ∃ n, ga_fuel = n + 4 := ⟨ga_fuel - 4, by have := d_fuel (n := 10) (by omega); omega⟩
  have key : f_X3_windowsOf_23 1 0 s = some 0 := by
    rw [fe_X3_windowsOf_23]; unfold fb_X3_windowsOf_23
    rw [hn, f_X3_windowsOf_23_h12, e1, if_neg (by decide), l, a0, Option.bind_some, if_pos rfl]
    dsimp only
    rw [f_X3_windowsOf_23_h12, e1, if_neg (by decide), l, a1, Option.bind_some, if_neg (by decide), if_pos rfl]
    dsimp only
    rw [f_X3_windowsOf_23_h12, e1, if_neg (by decide), l, a2, Option.bind_some, if_pos rfl]
    dsimp only
    rw [f_X3_windowsOf_23_h12, e1, if_pos (by decide), if_neg (by decide)]
    rfl
  have t1 : v_X11_requireTeacher 1 s = none := cT_y (j := 1) hN h (by decide)
  have d0 : v_X11_requireDay 0 s = none := cD_y (j := 0) hN h (by decide)
  rw [fe_X11_windows]; unfold fb_X11_windows
  rw [t1, Option.elim_none, d0, Option.elim_none, key, Option.bind_some]
theorem k_start : ∀ (xs : Nat → Int32) (LN : Nat) (s : ga_M), dC kN kQ (dP0 kQ) s → s 42 2 = 0 → s 42 3 = 0 → ∃ r, f_L_law2_h106 xs LN gv_f15 0 0 s = some (1, r) := by
  intro xs LN s h h2 h3
  have hW : dW kN kQ (dP0 kQ) := ⟨kN_ok, kQ_ok, dWP_0 kQ_ok⟩
  exact k_rounds (xs := xs) (LN := LN) 14 0 rfl gv_f15 (by rw [gv_f15_eq]; omega) (dP0 kQ) 0 (fun _ => dP0 kQ) s ⟨hW, kV_start kN_ok kV_0, by omega, fun p hp => by omega, h, ⟨0, by omega, by omega, h2, h3, fun p hp => by omega⟩⟩
theorem hlaw2 (xs : Nat → Int32) (LN : Nat) (h : cX kTx 231 s) (h2 : s 42 2 = 0) : ∃ r, f_L_law2 xs LN s = some (1, r) := by
  obtain ⟨s1, e1, d1, g3, g2⟩ := u_parse h
  rw [h2] at g2
  have hW : dW kN kQ (dP0 kQ) := ⟨kN_ok, kQ_ok, dWP_0 kQ_ok⟩
  obtain ⟨r, er⟩ := k_start xs LN s1 d1 g2 g3
  have q0 := x_count0 hW d1
  have q1 := x_count1 hW d1
  have q9 := x_count9 hW d1
  have qs := x_subject1 hW d1 (i := 1) (by decide)
  have qt := x_freeTeachers hW d1 (x := 0) (by decide)
  have qr := x_freeRooms hW d1 (x := 0) (by decide)
  have qw := x_windows10 d1
  have qc := x_whyNotCover hW d1 (i := 0) (j := 3) (by decide) (by decide)
  have v1 : dMs (fun k => dHb (kQ 3 k) (nI 1)) (kN 3) = 14 := by decide +kernel
  have v2 : dMs (fun k => !aAway kN (dP0 kQ) k (nI 0) && decide (aAt kN (dP0 kQ) 1 (nI 0) (nI k) = -1)) (kN 3) = 10 := by decide +kernel
  have v3 : dMs (fun k => decide (kQ 4 k = 0) && decide (aAt kN (dP0 kQ) 2 (nI 0) (nI k) = -1)) (kN 4) = 4 := by decide +kernel
  have v4 : aDiffs kN kQ (dP0 kQ) = 0 := by decide +kernel
  have v5 : aCover kN kQ (dP0 kQ) 0 3 = 1 := by decide +kernel
  rw [v1] at qs
  rw [v2] at qt
  rw [v3] at qr
  rw [v4] at q9
  rw [v5] at qc
  have qs' : f_X11_subject 1 1 s1 = some (.inl 14) := qs
  have qt' : f_X11_freeTeachers 0 s1 = some (.inl 10) := qt
  have qr' : f_X11_freeRooms 0 0 s1 = some (.inl 4) := qr
  have qc' : f_X11_whyNotCover 0 3 s1 = some (.inl 1) := qc
  have q0' : f_X11_count 0 s1 = some (.inl 2) := q0
  have q1' : f_X11_count 1 s1 = some (.inl 3) := q1
  refine ⟨r, ?_⟩
  rw [fe_L_law2]; unfold fb_L_law2
  rw [e1, Option.bind_some, if_pos rfl]
  dsimp only
  rw [q0', Option.bind_some, Sum.elim_inl, if_pos rfl, q1', Option.bind_some, Sum.elim_inl, if_pos rfl, qs', Option.bind_some, Sum.elim_inl, if_pos rfl, qt', Option.bind_some, Sum.elim_inl, if_pos rfl, qr', Option.bind_some, Sum.elim_inl, if_pos rfl, qw, Option.bind_some, Sum.elim_inl, if_pos rfl, q9, Option.bind_some, Sum.elim_inl, if_pos rfl, qc', Option.bind_some, Sum.elim_inl, if_pos rfl]
  exact er
theorem hlaw (xs : Nat → Int32) (LN : Nat) (σ : ga_M) : ∃ r : ga_M, f_L_law xs LN σ = some (1, r) := by
  obtain ⟨s1, e1, _, i2, i3, i4, _⟩ := c_init (ga_z σ 0)
  obtain ⟨s2, e2, h2, f2⟩ := ty_done i4
  obtain ⟨r, er⟩ := hlaw2 xs LN h2 (by rw [f2 42 (by omega) (by omega) (by omega)]; exact i2)
  refine ⟨r, ?_⟩
  unfold f_L_law
  rw [e1, Option.bind_some]
  dsimp only
  rw [gk_r0]
  show f_L_law1 xs LN s1 = _
  unfold f_L_law1
  rw [e2, Option.bind_some]
  exact er
end E11
