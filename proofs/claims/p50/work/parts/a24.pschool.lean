section D54
/-! ===== parseSchool ===== -/
variable {T : Nat → Nat} {L : Nat} {N : Nat → Nat} {Q : Nat → Nat → Int32} {s t : ga_M}
/-- the text that both hold -/
theorem dTx_T (h : dTx s) : ∃ T L, tOk T L ∧ cX T L s ∧ s 72 12 = nI L ∧ ∀ i, i < L → s 80 i &&& 255 = nI (T i) := by
  obtain ⟨L, hL, h1, h2, h3⟩ := h
  have key : ∀ i, i < L → (s 47 i).toNatClampNeg < 256 ∧ s 47 i = nI (s 47 i).toNatClampNeg ∧ s 80 i &&& 255 = nI (s 47 i).toNatClampNeg := fun i hi => by
    obtain ⟨b, hb, e1, e2⟩ := h3 i hi
    have : (s 47 i).toNatClampNeg = b := by rw [e1]; exact d_cl (by omega)
    rw [this]; exact ⟨hb, e1, e2⟩
  exact ⟨fun i => (s 47 i).toNatClampNeg, L, ⟨hL, fun i hi => (key i hi).1⟩, ⟨h1, fun i hi => (key i hi).2.1⟩, h2, fun i hi => (key i hi).2.2⟩
/-- the class begins to read -/
theorem c_start (hT : tOk T L) (h : cX T L s) : ∃ s1, f_X10_begin s = some s1 ∧ cK T L (tS T L 0) s1 ∧ tF s s1 ∧ s1 45 6 = 0 ∧ s1 45 7 = -1 := by
  rw [fe_X10_begin]; unfold fb_X10_begin
  dsimp only
  generalize hu : ga_up (ga_up (ga_up s 45 6 0) 45 7 (-1)) 45 4 0 = u
  have uX : cX T L u := ⟨by rw [← hu, d_up_nk (by omega), d_up_nk (by omega), d_up_nk (by omega)]; exact h.1, by rw [← hu, d_up_ne (by omega), d_up_ne (by omega), d_up_ne (by omega)]; exact h.2⟩
  obtain ⟨s1, e1, k1, f1, g6, g7⟩ := c_next hT (e := 0) (by omega) uX (by rw [← hu, d_up_eq]; rfl)
  rw [e1]
  refine ⟨s1, rfl, k1, fun c hc => by rw [f1 c hc, ← hu, d_up_ne hc, d_up_ne hc, d_up_ne hc], ?_, ?_⟩
  · rw [g6, ← hu, d_up_nk (by omega), d_up_nk (by omega), d_up_eq]
  · rw [g7, ← hu, d_up_nk (by omega), d_up_eq]
theorem c_emptyS (s : ga_M) : dC2 49 (fun _ => 0) Q (v_X7_becomeEmpty_49 s) ∧ ∀ c, c ≠ 49 → v_X7_becomeEmpty_49 s c = s c := by
  rw [ve_X7_becomeEmpty_49]; unfold vb_X7_becomeEmpty_49
  refine ⟨⟨fun k hk => ?_, fun a ha ha9 k hk => absurd hk (Nat.not_lt_zero k)⟩, fun c hc => ?_⟩
  · dsimp only
    show _ = nI 0
    rcases (show k = 0 ∨ k = 1 ∨ k = 2 ∨ k = 3 ∨ k = 4 ∨ k = 5 ∨ k = 6 by omega) with rfl | rfl | rfl | rfl | rfl | rfl | rfl
    all_goals
      simp [d_up_at]
      try rfl
  · simp only [d_up_ne hc]
theorem c_take (hN : dWN N) (hQ : dWQ N Q) (h : dC2 49 N Q s) : ∃ s1, ((f_X3_begin (v_X7_become_49 s)).bind fun s5 => some ((v_X1_forget s5) 1 6, v_X1_forget s5)) = some (nI (N 6), s1) ∧ (∀ c, 45 ≤ c → s1 c = s c) ∧ dC N Q (dP0 Q) s1 ∧ s1 42 3 = 0 ∧ s1 42 2 = s 42 2 := by
  obtain ⟨a1, a2⟩ := c_become (dBd_6 hN) h
  obtain ⟨s1, b1, b2, b3⟩ := c_begin hN hQ (dC2_iff.mp a1)
  have hf : v_X1_forget s1 = ga_up s1 42 3 0 := by rw [ve_X1_forget]; rfl
  rw [b1, Option.bind_some, hf]
  refine ⟨ga_up s1 42 3 0, ?_, fun c hc => by rw [d_up_ne (by omega), b2 c (by omega), a2 c (by omega)], dC_lt (fun c hc => d_up_ne (by omega)) b3, d_up_eq, by rw [d_up_nk (by omega), b2 42 (by omega), a2 42 (by omega)]⟩
  rw [d_up_ne (by omega), b3.1.1 6 (by omega)]
end D54
