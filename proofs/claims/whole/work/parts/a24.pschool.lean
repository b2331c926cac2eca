section D54
/-! ===== parseSchool ===== -/
variable {T : Nat → Nat} {L : Nat} {N : Nat → Nat} {Q : Nat → Nat → Int32} {s t : ga_M}
/-- the text that both hold -/
theorem dTx_T (h : dTx s) : ∃ T L, tOk T L ∧ cX T L s ∧ s 72 12 = nI L ∧ ∀ i, i < L → s 80 i &&& 255 = nI (T i) := by
  obtain ⟨L, hL, h1, h2, h3⟩ := h
  have key : ∀ i, i < L → (s 47 i).toNatClampNeg < 256 ∧ s 47 i = nI (s 47 i).toNatClampNeg ∧ s 80 i &&& 255 = nI (s 47 i).toNatClampNeg := fun i hi => by
    obtain ⟨b, hb, e1, e2⟩ := h3 i hi
    have : (s 47 i).toNatClampNeg = b := by rw [e1]; exact d_cl (by omega)
    rw [this]; exact ⟨hb, e1, e2⟩
  exact ⟨fun i => (s 47 i).toNatClampNeg, L, ⟨hL, fun i hi => (key i hi).1⟩, ⟨h1, fun i hi => (key i hi).2.1⟩, h2, fun i hi => (key i hi).2.2⟩
/-- the class begins to read -/
theorem c_start (hT : tOk T L) (h : cX T L s) : ∃ s1, f_X10_begin s = some s1 ∧ cK T L (tS T L 0) s1 ∧ tF s s1 ∧ s1 45 6 = 0 ∧ s1 45 7 = -1 := by
  rw [fe_X10_begin]; unfold fb_X10_begin
  dsimp only
  generalize hu : ga_up (ga_up (ga_up s 45 6 0) 45 7 (-1)) 45 4 0 = u
  have uX : cX T L u := ⟨by rw [← hu, d_up_nk (by omega), d_up_nk (by omega), d_up_nk (by omega)]; exact h.1, by rw [← hu, d_up_ne (by omega), d_up_ne (by omega), d_up_ne (by omega)]; exact h.2⟩
  obtain ⟨s1, e1, k1, f1, g6, g7⟩ := c_next hT (e := 0) (by omega) uX (by rw [← hu, d_up_eq]; rfl)
  rw [e1]
  refine ⟨s1, rfl, k1, fun c hc => by rw [f1 c hc, ← hu, d_up_ne hc, d_up_ne hc, d_up_ne hc], ?_, ?_⟩
  · rw [g6, ← hu, d_up_nk (by omega), d_up_nk (by omega), d_up_eq]
  · rw [g7, ← hu, d_up_nk (by omega), d_up_eq]
/-- the reference begins to read -/
theorem m_start (hT : tOk T L) (h12 : t 72 12 = nI L) (h : ∀ i, i < L → t 80 i &&& 255 = nI (T i)) : ∃ t1, f_X12_begin t = some t1 ∧ mK T L (tS T L 0) t1 ∧ (∀ c, c ≠ 72 → t1 c = t c) ∧ t1 72 16 = 0 ∧ t1 72 17 = -1 ∧ t1 72 12 = 0 ∧ ∀ f, f < 12 ∨ 17 < f → t1 72 f = t 72 f := by
  rw [fe_X12_begin]; unfold fb_X12_begin
  dsimp only
  generalize hu : ga_up (ga_up (ga_up (ga_up (ga_up t 72 15 (t 72 12)) 72 12 0) 72 14 0) 72 16 0) 72 17 (-1) = u
  have uX : mX T L u := ⟨by rw [← hu, d_up_nk (by omega), d_up_nk (by omega), d_up_nk (by omega), d_up_nk (by omega), d_up_eq]; exact h12, by rw [← hu, d_up_ne (by omega), d_up_ne (by omega), d_up_ne (by omega), d_up_ne (by omega), d_up_ne (by omega)]; exact h⟩
  obtain ⟨t1, e1, f1, g6, g7, k1⟩ := m_next hT (e := 0) (by omega) uX (by rw [← hu, d_up_nk (by omega), d_up_nk (by omega), d_up_eq]; rfl)
  rw [e1]
  refine ⟨t1, rfl, k1, fun c hc => by rw [f1.1 c hc, ← hu, d_up_ne hc, d_up_ne hc, d_up_ne hc, d_up_ne hc, d_up_ne hc], ?_, ?_, ?_, fun f hf => ?_⟩
  · rw [g6, ← hu, d_up_nk (by omega), d_up_eq]
  · rw [g7, ← hu, d_up_eq]
  · rw [f1.2 12 (by omega) (by omega) (by omega) (by omega), ← hu, d_up_nk (by omega), d_up_nk (by omega), d_up_nk (by omega), d_up_eq]
  · rw [f1.2 f (by omega) (by omega) (by omega) (by omega), ← hu, d_up_nk (by omega), d_up_nk (by omega), d_up_nk (by omega), d_up_nk (by omega), d_up_nk (by omega)]
/-- the reference's fresh school is empty -/
theorem m_empty (t : ga_M) : ∃ t1, f_X12_parseSchool_h7 ga_fuel 0 t = ((f_X12_begin t1).bind fun s => rRd s) ∧ (∀ c, c ≠ 74 → t1 c = t c) ∧ ∀ j, j < 235 → t1 74 j = 0 := by
  obtain ⟨s1, e1, i1, i2⟩ := d_sl (F := fun n k t => f_X12_parseSchool_h7 n (nI k) t) (M := 235) (G := fun u => (f_X12_begin u).bind fun s => rRd s) (I := fun k u => (∀ c, c ≠ 74 → u c = t c) ∧ ∀ j, j < k → u 74 j = 0)
    (fun n k u hk hI => by
      refine ⟨ga_up u 74 k 0, ?_, fun c hc => by rw [d_up_ne hc, hI.1 c hc], fun j hj => ?_⟩
      · show f_X12_parseSchool_h7 (n + 1) _ _ = _
        rw [f_X12_parseSchool_h7]
        dsimp only
        rw [if_neg (show ¬ (235 : Int32) ≤ nI k from nI_ge (b := 235) hk (by omega)), if_neg (nI_in (c := k) (N := 235) (by omega) (by omega)), d_cl (show k < 2147483648 by omega), d_p1]
      · rw [d_up_at]
        by_cases e : j = k
        · rw [if_pos ⟨rfl, e⟩]
        · rw [if_neg (fun q => e q.2)]; exact hI.2 j (by omega))
    (fun n u hI => by
      show f_X12_parseSchool_h7 (n + 1) _ _ = _
      rw [f_X12_parseSchool_h7, if_pos (show (235 : Int32) ≤ nI 235 from nI_le (Nat.le_refl 235) (by omega))]
      simp only [rRd_eq])
    235 0 ga_fuel t (by omega) (d_fuel (by omega)) ⟨fun _ _ => rfl, fun j hj => by omega⟩
  exact ⟨s1, e1, i1, i2⟩
theorem c_emptyS (s : ga_M) : dC2 49 (fun _ => 0) Q (v_X7_becomeEmpty_49 s) ∧ ∀ c, c ≠ 49 → v_X7_becomeEmpty_49 s c = s c := by
  rw [ve_X7_becomeEmpty_49]; unfold vb_X7_becomeEmpty_49
  refine ⟨⟨fun k hk => ?_, fun a ha ha9 k hk => absurd hk (Nat.not_lt_zero k)⟩, fun c hc => ?_⟩
  · dsimp only
    show _ = nI 0
    rcases (show k = 0 ∨ k = 1 ∨ k = 2 ∨ k = 3 ∨ k = 4 ∨ k = 5 ∨ k = 6 by omega) with rfl | rfl | rfl | rfl | rfl | rfl | rfl
    all_goals
      simp [d_up_at]
      try rfl
  · simp only [d_up_ne hc]
theorem c_take (hN : dWN N) (hQ : dWQ N Q) (h : dC2 49 N Q s) : ∃ s1, ((f_X3_begin (v_X7_become_49 s)).bind fun s5 => some ((v_X1_forget s5) 1 6, v_X1_forget s5)) = some (nI (N 6), s1) ∧ (∀ c, 45 ≤ c → s1 c = s c) ∧ dC N Q (dP0 Q) s1 ∧ s1 42 3 = 0 ∧ s1 42 2 = s 42 2 := by
  obtain ⟨a1, a2⟩ := c_become (dBd_6 hN) h
  obtain ⟨s1, b1, b2, b3⟩ := c_begin hN hQ (dC2_iff.mp a1)
  have hf : v_X1_forget s1 = ga_up s1 42 3 0 := by rw [ve_X1_forget]; rfl
  rw [b1, Option.bind_some, hf]
  refine ⟨ga_up s1 42 3 0, ?_, fun c hc => by rw [d_up_ne (by omega), b2 c (by omega), a2 c (by omega)], dC_lt (fun c hc => d_up_ne (by omega)) b3, d_up_eq, by rw [d_up_nk (by omega), b2 42 (by omega), a2 42 (by omega)]⟩
  rw [d_up_ne (by omega), b3.1.1 6 (by omega)]
theorem st_parseSchool : dStep0 f_X11_parseSchool f_X12_parseSchool := by
  intro s ⟨N, Q, P, m, H, h⟩
  obtain ⟨T, L, hT, hX, h12, h80⟩ := dTx_T h.2.2.2.2.2.2.1
  have hRe := h.2.2.2.2.2.2.2.2
  obtain ⟨a1, a2⟩ := c_emptyS (Q := Q) s
  obtain ⟨s1, e1, k1, f1, g6, g7⟩ := c_start (s := v_X7_becomeEmpty_49 s) hT ⟨by rw [a2 45 (by omega)]; exact hX.1, by rw [a2 47 (by omega)]; exact hX.2⟩
  have hRead : f_X8_read s = cRd s1 := by
    rw [fe_X8_read]; unfold fb_X8_read
    dsimp only
    rw [e1, Option.bind_some]
    rfl
  have P1 : pFc s s1 := fun c c1 c2 => by rw [f1 c c1, a2 c (by omega)]
  -- the reference's text, wherever its own cells are kept
  have ref : ∀ u : ga_M, (∀ c, c = 72 ∨ c = 80 → u c = s c) → ∃ t0 t1, f_X12_parseSchool u = rRd t1 ∧ (∀ c, c ≠ 72 → c ≠ 74 → t1 c = u c) ∧ mK T L (tS T L 0) t1 ∧ t1 72 16 = 0 ∧ t1 72 17 = -1 ∧ t1 72 12 = 0 ∧ (∀ f, f ≠ 6 → f < 12 ∨ 17 < f → t1 72 f = s 72 f) ∧ dM2 74 (fun _ => 0) Q t1 ∧ t0 = t1 := by
    intro u hu
    rw [fe_X12_parseSchool]; unfold fb_X12_parseSchool
    dsimp only
    obtain ⟨t0, b1, b2, b3⟩ := m_empty (ga_up u 72 6 0)
    rw [b1]
    obtain ⟨t1, d1, d2, d3, d4, d5, d6, d7⟩ := m_start (t := t0) hT (by rw [b2 72 (by omega), d_up_nk (by omega), hu 72 (by omega)]; exact h12) (by rw [b2 80 (by omega), d_up_ne (by omega), hu 80 (by omega)]; exact h80)
    rw [d1, Option.bind_some]
    refine ⟨t1, t1, rfl, fun c c1 c2 => by rw [d3 c c1, b2 c c2, d_up_ne c1], d2, d4, d5, d6, fun f f6 hf => by rw [d7 f hf, b2 72 (by omega), d_up_nk (by omega), hu 72 (by omega)], ⟨fun k hk => ?_, fun a ha ha9 k hk => absurd hk (Nat.not_lt_zero k)⟩, rfl⟩
    rw [d3 74 (by omega), b3 k (by omega)]; rfl
  have mk : ∀ t1 : ga_M, mK T L (tS T L 0) t1 → t1 72 16 = 0 → t1 72 17 = -1 → dM2 74 (fun _ => 0) Q t1 → pOk T L (tS T L 0) (fun _ => 0) Q s1 t1 := fun t1 b1 b2 b3 b4 => ⟨⟨k1, b1, g6, g7, b2, b3⟩, dC2_t f1 a1, b4⟩
  have hP : ∀ (x : Int32) (s2 : ga_M), cRd s1 = some (x, s2) → f_X11_parseSchool s = if x = 0 then some (-1, ga_up s2 45 1 0) else (f_X3_begin (v_X7_become_49 (ga_up s2 45 1 0))).bind fun s5 => some ((v_X1_forget s5) 1 6, v_X1_forget s5) := fun x s2 e => by
    rw [fe_X11_parseSchool]; unfold fb_X11_parseSchool
    rw [hRead, e, Option.bind_some]
  obtain ⟨_, tA, _, _, x1, x2, x3, _, _, x4, _⟩ := ref s (fun _ _ => rfl)
  rcases l_read hT rfl rfl rfl rfl (mk tA x1 x2 x3 x4) with ⟨_, N2, Q2, s2, _, y1, _, y2, y3, _, y4, y5⟩ | ⟨s2, _, y1, _, _, y3, _⟩
  · -- both take it over
    have hC2 : ∀ N Q, dC2 49 N Q s2 → dC2 49 N Q (ga_up s2 45 1 0) := fun N Q q => ⟨fun k hk => by rw [d_up_ne (by omega)]; exact q.1 k hk, fun a ha ha9 k hk => by rw [d_up_ne (by omega)]; exact q.2 a ha ha9 k hk⟩
    obtain ⟨sF, w1, w2, _, w3, w4⟩ := c_take y4 y5 (hC2 _ _ y2.2.1)
    have hCl : f_X11_parseSchool s = some (nI (N2 6), sF) := by rw [hP 1 s2 y1, if_neg (by decide)]; exact w1
    have hs2 : ∀ c, 45 < c → c ≤ 48 ∨ 68 ≤ c → sF c = s c := fun c c1 c2 => by rw [w2 c (by omega), d_up_ne (by omega), y3 c (by omega) c2, P1 c (by omega) c2]
    obtain ⟨_, t1, r1, r2, r3, r4, r5, r6, r7, r8, _⟩ := ref sF (fun c hc => hs2 c (by omega) (by omega))
    rcases l_read hT rfl rfl rfl rfl (mk t1 r3 r4 r5 r8) with ⟨_, N3, Q3, s3, t3, z1, z2, z3, z4, z5, z6, z7⟩ | ⟨s3, _, z1, _⟩
    · have es : s3 = s2 := by
        rw [y1] at z1; exact (Prod.mk.inj (Option.some.inj z1)).2.symm
      subst es
      obtain ⟨sG, v1, v2, v3, v4, v5⟩ := c_take z6 z7 (hC2 _ _ z3.2.1)
      have eF : (nI (N2 6), sF) = (nI (N3 6), sG) := Option.some.inj (w1.symm.trans v1)
      obtain ⟨eN, eS⟩ := Prod.mk.inj eF
      subst eS
      obtain ⟨t4, u1, u2, u3, u4, u5⟩ := m_take z6 z3.2.2
      have ht : ∀ c, c ≠ 72 → c ≠ 73 → c ≠ 74 → c ≠ 75 → c ≠ 78 → c ≠ 79 → t4 c = sF c := fun c c1 c2 c3 c4 c5 c6 => by rw [u2 c c1 c2 c4 c5 c6, z5.1 c c1 c3, r2 c c1 c3]
      refine ⟨nI (N2 6), sF, t4, hCl, ?_, N3, Q3, dP0 Q3, 0, H, ⟨z6, z7, dWP_0 z7⟩, fun p hp => by omega, dC_lt (fun c hc => ht c (by omega) (by omega) (by omega) (by omega) (by omega) (by omega)) v3, u4, ?_, ?_, ?_, ?_, ?_⟩
      · rw [r1, z2, u1, eN]
      · obtain ⟨o, ho⟩ := h.2.2.2.2.1
        exact ⟨o, by omega, ho.2.1, by rw [ht 42 (by omega) (by omega) (by omega) (by omega) (by omega) (by omega), w4, d_up_ne (by omega), y3 42 (by omega) (by omega), P1 42 (by omega) (by omega)]; exact ho.2.2.1, by rw [ht 42 (by omega) (by omega) (by omega) (by omega) (by omega) (by omega), w3]; rfl, fun p hp => by omega⟩
      · exact ⟨by omega, by rw [u5]; rfl, fun p hp => by omega⟩
      · refine ⟨0, by omega, ?_, ?_, fun i hi => by omega⟩
        · rw [ht 45 (by omega) (by omega) (by omega) (by omega) (by omega) (by omega), w2 45 (by omega), d_up_eq]; rfl
        · rw [u3 12 (by omega) (by omega) (by omega), z5.2 12 (by omega) (by omega) (by omega) (by omega), r6]; rfl
      · unfold dEr
        rw [ht 45 (by omega) (by omega) (by omega) (by omega) (by omega) (by omega), w2 45 (by omega), d_up_nk (by omega), d_up_nk (by omega), u3 16 (by omega) (by omega) (by omega), u3 17 (by omega) (by omega) (by omega)]
        obtain ⟨_, _, q1, q2, q3, q4⟩ := z3.1
        rw [q1, q2, q3, q4]; exact ⟨rfl, rfl⟩
      · refine dRe_cong ?_ ?_ ?_ ?_ hRe
        · rw [ht 69 (by omega) (by omega) (by omega) (by omega) (by omega) (by omega), hs2 69 (by omega) (by omega)]
        · rw [ht 71 (by omega) (by omega) (by omega) (by omega) (by omega) (by omega), hs2 71 (by omega) (by omega)]
        · rw [u3 19 (by omega) (by omega) (by omega), z5.2 19 (by omega) (by omega) (by omega) (by omega), r7 19 (by omega) (by omega)]
        · rw [ht 81 (by omega) (by omega) (by omega) (by omega) (by omega) (by omega), hs2 81 (by omega) (by omega)]
    · rw [y1] at z1
      exact absurd (Prod.mk.inj (Option.some.inj z1)).1 (by decide)
  · -- neither does
    generalize hsF : ga_up s2 45 1 0 = sF
    have hCl : f_X11_parseSchool s = some (-1, sF) := by rw [hP 0 s2 y1, if_pos rfl, hsF]
    have hs2 : ∀ c, c ≠ 45 → c ≤ 48 ∨ 68 ≤ c → sF c = s c := fun c c1 c2 => by rw [← hsF, d_up_ne c1, y3 c c1 c2, P1 c c1 c2]
    obtain ⟨_, t1, r1, r2, r3, r4, r5, r6, r7, r8, _⟩ := ref sF (fun c hc => hs2 c (by omega) (by omega))
    rcases l_read hT rfl rfl rfl rfl (mk t1 r3 r4 r5 r8) with ⟨_, N3, Q3, s3, t3, z1, z2, z3, z4, z5, z6, z7⟩ | ⟨s3, t3, z1, z2, z3, z4, z5⟩
    · rw [y1] at z1
      exact absurd (Prod.mk.inj (Option.some.inj z1)).1 (by decide)
    · have es : s3 = s2 := by
        rw [y1] at z1; exact (Prod.mk.inj (Option.some.inj z1)).2.symm
      subst es
      have ht : ∀ c, c ≠ 72 → c ≠ 74 → t3 c = sF c := fun c c1 c2 => by rw [z5.1 c c1 c2, r2 c c1 c2]
      have ht2 : ∀ f, f ≠ 6 → f < 12 ∨ 17 < f → t3 72 f = s 72 f := fun f f1 f2 => by rw [z5.2 f (by omega) (by omega) (by omega) (by omega), r7 f f1 f2]
      refine ⟨-1, sF, t3, hCl, by rw [r1, z2], N, Q, P, m, H, dI_mk h (fun c hc => by rw [ht c (by omega) (by omega), hs2 c (by omega) (by omega)]) (by rw [ht 73 (by omega) (by omega), hs2 73 (by omega) (by omega)]) (by rw [ht 75 (by omega) (by omega), hs2 75 (by omega) (by omega)]) (by rw [ht 77 (by omega) (by omega), hs2 77 (by omega) (by omega)]) (ht2 5 (by omega) (by omega)) ?_ ?_ ?_⟩
      · refine ⟨0, by omega, ?_, ?_, fun i hi => by omega⟩
        · rw [ht 45 (by omega) (by omega), ← hsF, d_up_eq]; rfl
        · rw [z5.2 12 (by omega) (by omega) (by omega) (by omega), r6]; rfl
      · unfold dEr
        rw [ht 45 (by omega) (by omega), ← hsF, d_up_nk (by omega), d_up_nk (by omega)]
        exact ⟨z3.1, z3.2.1⟩
      · refine dRe_cong ?_ ?_ ?_ ?_ hRe
        · rw [ht 69 (by omega) (by omega), hs2 69 (by omega) (by omega)]
        · rw [ht 71 (by omega) (by omega), hs2 71 (by omega) (by omega)]
        · rw [ht2 19 (by omega) (by omega)]
        · rw [ht 81 (by omega) (by omega), hs2 81 (by omega) (by omega)]
end D54
