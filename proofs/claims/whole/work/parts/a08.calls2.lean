section D38
variable {N : Nat → Nat} {Q P : Nat → Nat → Int32} {s : ga_M} {m : Nat} {H : Nat → Nat → Nat → Int32}
theorem o_setAbsent (hW : dW N Q P) (hX : dWH N m H) (hm10 : m ≤ 10) (a b c : Int32) : dCo N Q P m H (f_X11_setAbsent a b c) (f_X12_setAbsent a b c) (dK 3 3) := by
  have hNw := hW.1
  have hB := dWN_b hNw
  rcases d_in a (N 3) (by omega) with ⟨i, hi, rfl⟩ | ⟨_, hn⟩
  · rcases d_in b (N 0) (by omega) with ⟨j, hj, rfl⟩ | ⟨_, hn⟩
    · refine ⟨pA N P i j (decide (c ≠ 0)), hN m, hH m H P, .inl (aAbs N P i j (decide (c ≠ 0))), ⟨hNw, hW.2.1, dWP_pA hW.2.2 i j _⟩, dWH_push hX hm10 hW.2.2, fun s h hh => ?_, fun s h hh => ?_⟩
      · obtain ⟨s3, s4, s5, e3, e4, e5, f5, h5, hh5⟩ := c_mkk hNw (act := f_X2_letBeAbsent (nI i) (nI j) c) (c_letBeAbsent hW hi hj (decide (c ≠ 0)) rfl) h hh
        refine ⟨s5, ?_, f5, h5, hh5⟩
        rw [fe_X11_setAbsent]; unfold fb_X11_setAbsent
        simp only [cT_y hNw h hi, cD_y hNw h hj, e3, e4, e5, d_fails1, d_fails0, d_10, d_01, d_00, d_11, true_or, or_true, or_self, if_true, if_false, reduceIte, Option.elim_none, Option.elim_some, Option.bind_some, d_up_up]
      · obtain ⟨s4, e4, f4, g4, _, i4, j4⟩ := m_rem hNw (dM_726 h 0) (dMH_726 hh 0)
        obtain ⟨s5, e5, f5, g5⟩ := m_absents hW hi hj (decide (c ≠ 0)) (b := c) rfl i4
        refine ⟨_, s5, ?_, dFm_trans (dFm_726 s 0) (dFm_trans f4 (dFm_q f5)), g5, dMH_q f5 j4, rfl, by rw [f5.2 6 (by omega) (by omega), g4 6 (by omega), d_up_eq]⟩
        rw [fe_X12_setAbsent]; unfold fb_X12_setAbsent
        simp only [mT_y hNw h hi, mD_y hNw h hj, e4, e5, d_fails1, d_fails0, d_10, d_01, d_00, d_11, true_or, or_true, or_self, if_true, if_false, reduceIte, Option.elim_none, Option.elim_some, Option.bind_some, d_up_up]
    · refine dCo_no hW hX 3 (by decide) (fun s h => ?_) (fun s h => ?_)
      · rw [fe_X11_setAbsent]; unfold fb_X11_setAbsent
        simp only [cT_y hNw h hi, cD_n hNw h hn, d_fails1, d_fails0, d_10, d_01, d_00, d_11, true_or, or_true, or_self, if_true, if_false, reduceIte, Option.elim_none, Option.elim_some, Option.bind_some, d_up_up]
      · rw [fe_X12_setAbsent]; unfold fb_X12_setAbsent
        simp only [mT_y hNw h hi, mD_n hNw h hn, dK_a, dK_31, dK_32, dK_34, d_fails1, d_fails0, d_10, d_01, d_00, d_11, true_or, or_true, or_self, if_true, if_false, reduceIte, Option.elim_none, Option.elim_some, Option.bind_some, d_up_up]
  · refine dCo_no hW hX 3 (by decide) (fun s h => ?_) (fun s h => ?_)
    · rw [fe_X11_setAbsent]; unfold fb_X11_setAbsent
      simp only [cT_n hNw h hn, d_fails1, d_fails0, d_10, d_01, d_00, d_11, true_or, or_true, or_self, if_true, if_false, reduceIte, Option.elim_none, Option.elim_some, Option.bind_some, d_up_up]
    · rw [fe_X12_setAbsent]; unfold fb_X12_setAbsent
      simp only [mT_n hNw h hn, dK_a, dK_31, dK_32, dK_34, d_fails1, d_fails0, d_10, d_01, d_00, d_11, true_or, or_true, or_self, if_true, if_false, reduceIte, Option.elim_none, Option.elim_some, Option.bind_some, d_up_up]
theorem o_reopen (hW : dW N Q P) (hX : dWH N m H) (hm10 : m ≤ 10) (a : Int32) : dCo N Q P m H (f_X11_reopen a) (f_X12_reopen a) (dK 3 1) := by
  have hNw := hW.1
  have hB := dWN_b hNw
  rcases d_in a (N 6) (by omega) with ⟨i, hi, rfl⟩ | ⟨_, hn⟩
  · have hact := c_openAgain hW hi
    by_cases hr : P 1 i = -1
    · rw [if_pos hr, decide_eq_true hr] at hact
      refine ⟨P, m, H, .inr 1, hW, hX, fun s h hh => ?_, fun s h hh => ?_⟩
      · obtain ⟨s3, s4, e3, e4, e5, f5, h5, hh5⟩ := c_mkn hNw (act := fun s => some (v_X2_openAgain (nI i) s)) hact h hh
        have e4' : v_X2_openAgain (nI i) s3 = (0, s4) := Option.some.inj e4
        refine ⟨s4, ?_, f5, h5, hh5⟩
        rw [fe_X11_reopen]; unfold fb_X11_reopen
        simp only [cL_y hNw h hi, e3, e4', e5, d_fails1, d_fails0, d_10, d_01, d_00, d_11, true_or, or_true, or_self, if_true, if_false, reduceIte, Option.elim_none, Option.elim_some, Option.bind_some, d_up_up]
      · have h0 := dM_726 h 0
        refine ⟨0, ga_up s 72 6 2, ?_, dFm_726 s 2, dM_726 h 2, dMH_726 hh 2, by decide, by rw [d_up_eq]; rfl⟩
        rw [fe_X12_reopen]; unfold fb_X12_reopen
        simp only [mL_y hNw h hi, dm_isOpen hNw h0 hi, hr, decide_true, show aB true = 1 from rfl, d_fails1, d_fails0, d_10, d_01, d_00, d_11, true_or, or_true, or_self, if_true, if_false, reduceIte, Option.elim_none, Option.elim_some, Option.bind_some, d_up_up]
    · rw [if_neg hr, decide_eq_false hr] at hact
      refine ⟨pT P i (-1) 0, hN m, hH m H P, .inl (P 1 i), ⟨hNw, hW.2.1, dWP_open hW.2.2 i⟩, dWH_push hX hm10 hW.2.2, fun s h hh => ?_, fun s h hh => ?_⟩
      · obtain ⟨s3, s4, s5, e3, e4, e5, f5, h5, hh5⟩ := c_mka hNw (act := fun s => some (v_X2_openAgain (nI i) s)) hact h hh
        have e4' : v_X2_openAgain (nI i) s3 = (1, s4) := Option.some.inj e4
        refine ⟨s5, ?_, f5, h5, hh5⟩
        rw [fe_X11_reopen]; unfold fb_X11_reopen
        simp (disch := omega) only [cL_y hNw h hi, e3, e4', e5, d_at, dc24 h hi, d_fails1, d_fails0, d_10, d_01, d_00, d_11, true_or, or_true, or_self, if_true, if_false, reduceIte, Option.elim_none, Option.elim_some, Option.bind_some, d_up_up]
      · have h0 := dM_726 h 0
        obtain ⟨s4, s5, e4, e5, f5, t5, h4, h5, hh5⟩ := m_act hNw (m_opens (show N 6 ≤ 40 by omega) hi) h hh
        refine ⟨_, s5, ?_, f5, h5, hh5, rfl, t5⟩
        rw [fe_X12_reopen]; unfold fb_X12_reopen
        simp (disch := omega) only [mL_y hNw h hi, dm_isOpen hNw h0 hi, hr, decide_false, show aB false = 0 from rfl, e4, e5, d_a40, d_ix, d_cl, d_n0, d_lef, dm40 h4 hi, d_fails1, d_fails0, d_10, d_01, d_00, d_11, true_or, or_true, or_self, if_true, if_false, reduceIte, Option.elim_none, Option.elim_some, Option.bind_some, d_up_up]
  · refine dCo_no hW hX 3 (by decide) (fun s h => ?_) (fun s h => ?_)
    · rw [fe_X11_reopen]; unfold fb_X11_reopen
      simp only [cL_n hNw h hn, d_fails1, d_fails0, d_10, d_01, d_00, d_11, true_or, or_true, or_self, if_true, if_false, reduceIte, Option.elim_none, Option.elim_some, Option.bind_some, d_up_up]
    · rw [fe_X12_reopen]; unfold fb_X12_reopen
      simp only [mL_n hNw h hn, dK_a, dK_31, dK_32, dK_34, d_fails1, d_fails0, d_10, d_01, d_00, d_11, true_or, or_true, or_self, if_true, if_false, reduceIte, Option.elim_none, Option.elim_some, Option.bind_some, d_up_up]
theorem o_repair (hW : dW N Q P) (hX : dWH N m H) (hm10 : m ≤ 10) (a : Int32) : dCo N Q P m H (f_X11_repair a) (f_X12_repair a) (dK 3 1) := by
  have hNw := hW.1
  have hB := dWN_b hNw
  rcases d_in a (N 6) (by omega) with ⟨i, hi, rfl⟩ | ⟨_, hn⟩
  · obtain ⟨L, P2, hL, hW2, hP2, hc, hm⟩ := d_repair hW hi
    have hact : dAc N Q P P2 (f_X2_repairByChain (nI i)) (aB (decide (L ≠ 0))) := fun s h => by
      obtain ⟨s1, e1, e2, e3, _⟩ := hc s h
      exact ⟨s1, e1, e2, e3⟩
    by_cases hr : L = 0
    · have e0 := hP2 hr
      subst e0
      subst hr
      refine ⟨P2, m, H, .inr 1, hW, hX, fun s h hh => ?_, fun s h hh => ?_⟩
      · obtain ⟨s3, s4, e3, e4, e5, f5, h5, hh5⟩ := c_mkn hNw (act := f_X2_repairByChain (nI i)) hact h hh
        refine ⟨s4, ?_, f5, h5, hh5⟩
        rw [fe_X11_repair]; unfold fb_X11_repair
        simp only [cL_y hNw h hi, e3, e4, e5, d_fails1, d_fails0, d_10, d_01, d_00, d_11, true_or, or_true, or_self, if_true, if_false, reduceIte, Option.elim_none, Option.elim_some, Option.bind_some, d_up_up]
      · obtain ⟨s1, e1, e2, _⟩ := hm _ (dM_726 h 0)
        have hq := dFq_gFr e2
        refine ⟨0, ga_up s1 72 6 2, ?_, dFm_trans (dFm_726 s 0) (dFm_trans (dFm_q hq) (dFm_726 s1 2)), dM_726 (gFr_dM e2 (dM_726 h 0)) 2, dMH_726 (dMH_q hq (dMH_726 hh 0)) 2, by decide, by rw [d_up_eq]; rfl⟩
        rw [fe_X12_repair]; unfold fb_X12_repair
        simp only [mL_y hNw h hi, e1, show nI 0 = 0 from rfl, d_fails1, d_fails0, d_10, d_01, d_00, d_11, true_or, or_true, or_self, if_true, if_false, reduceIte, Option.elim_none, Option.elim_some, Option.bind_some, d_up_up]
    · have hr1 : decide (L ≠ 0) = true := decide_eq_true hr
      rw [hr1] at hact
      refine ⟨P2, hN m, hH m H P, .inl (nI L), hW2, dWH_push hX hm10 hW.2.2, fun s h hh => ?_, fun s h hh => ?_⟩
      · have hB2 : ∃ s3, f_X1_mark s = some s3 ∧ dC N Q P s3 ∧ (∀ c, c ≠ 44 → s3 c = s c) ∧ dCHm N m H P s3 := by
          obtain ⟨s3, e3, f3, g3⟩ := dc_mark (show N 6 ≤ 40 by omega) h hh
          exact ⟨s3, e3, dC_lt (fun c hc => f3 c (by omega)) h, f3, g3⟩
        obtain ⟨s3, e3, h3, f3, g3⟩ := hB2
        obtain ⟨s4, e4, f4, h4, l4⟩ := hc s3 h3
        rw [hr1] at e4
        obtain ⟨s5, e5, f5, g5⟩ := dc_keep (dCHm_cong (f4 42 (by omega)) (f4 44 (by omega)) g3)
        have ek : f_X11_keepUnlessRefused 1 s4 = some (none, s5) := by
          rw [fe_X11_keepUnlessRefused]; unfold fb_X11_keepUnlessRefused
          rw [if_neg (by decide), e5, Option.bind_some]
        refine ⟨s5, ?_, fun c hc => by rw [f5 c (by omega), f4 c (by omega), f3 c (by omega)], dC_lt (fun c hc => f5 c (by omega)) h4, g5⟩
        rw [fe_X11_repair]; unfold fb_X11_repair
        simp only [cL_y hNw h hi, e3, e4, show aB true = 1 from rfl, ek, f5 32 (by omega), l4, d_fails1, d_fails0, d_10, d_01, d_00, d_11, true_or, or_true, or_self, if_true, if_false, reduceIte, Option.elim_none, Option.elim_some, Option.bind_some, d_up_up]
      · obtain ⟨s1, e1, e2, e3⟩ := hm _ (dM_726 h 0)
        have hq := dFq_gFr e2
        have hs1 := gFr_dM e2 (dM_726 h 0)
        obtain ⟨s4, e4, f4, g4, k4, i4, j4⟩ := m_rem hNw (dM_726 hs1 0) (dMH_726 (dMH_q hq (dMH_726 hh 0)) 0)
        obtain ⟨t2, x1, x2, x3, x4⟩ := e3 hr s4 i4 (by rw [g4 9 (by omega), d_up_nk (by omega)]) (by rw [k4 79 (by omega) (by omega) (by omega), d_up_ne (by omega)])
        have hq2 : dFq s4 t2 := ⟨fun a _ a2 _ _ => x2 a a2, fun f _ _ => by rw [x2 72 (by decide)]⟩
        refine ⟨_, t2, ?_, dFm_trans (dFm_726 s 0) (dFm_trans (dFm_q hq) (dFm_trans (dFm_726 s1 0) (dFm_trans f4 (dFm_q hq2)))), x3, dMH_q hq2 j4, rfl, by rw [x2 72 (by decide), g4 6 (by omega), d_up_eq]⟩
        have hL0 : ¬ nI L = 0 := nI_ne0 (by omega) (by omega)
        rw [fe_X12_repair]; unfold fb_X12_repair
        simp only [mL_y hNw h hi, e1, hL0, e4, x1, x4, d_fails1, d_fails0, d_10, d_01, d_00, d_11, true_or, or_true, or_self, if_true, if_false, reduceIte, Option.elim_none, Option.elim_some, Option.bind_some, d_up_up]
  · refine dCo_no hW hX 3 (by decide) (fun s h => ?_) (fun s h => ?_)
    · rw [fe_X11_repair]; unfold fb_X11_repair
      simp only [cL_n hNw h hn, d_fails1, d_fails0, d_10, d_01, d_00, d_11, true_or, or_true, or_self, if_true, if_false, reduceIte, Option.elim_none, Option.elim_some, Option.bind_some, d_up_up]
    · rw [fe_X12_repair]; unfold fb_X12_repair
      simp only [mL_n hNw h hn, dK_a, dK_31, dK_32, dK_34, d_fails1, d_fails0, d_10, d_01, d_00, d_11, true_or, or_true, or_self, if_true, if_false, reduceIte, Option.elim_none, Option.elim_some, Option.bind_some, d_up_up]
theorem dm_undo30 (hN6 : N 6 ≤ 40) {p : Nat} (hp : p < 10) (h5 : s 72 5 = nI p) : ∃ s2, f_X12_undo_h30 ga_fuel 0 s = some (nI p, s2) ∧ (∀ c, c ≠ 75 → s2 c = s c) ∧ ∀ j, j < 168 → s2 75 j = s 77 (168 * p + j) := by
  obtain ⟨s2, e1, i1, i2⟩ := d_sl (F := fun n k t => f_X12_undo_h30 n (nI k) t) (M := 168) (G := fun t => some (nI p, t))
    (I := fun k t => (∀ c, c ≠ 75 → t c = s c) ∧ ∀ j, j < k → t 75 j = s 77 (168 * p + j))
    (fun n k t hk hI => by
      obtain ⟨h1, h2⟩ := hI
      refine ⟨ga_up t 75 k (s 77 (168 * p + k)), ?_, fun c hc => by rw [d_up_ne hc, h1 c hc], fun j hj => ?_⟩
      · show f_X12_undo_h30 (n + 1) _ _ = _
        rw [f_X12_undo_h30]
        dsimp only
        rw [if_neg (show ¬ (168 : Int32) ≤ nI k from nI_ge (b := 168) hk (by omega)), h1 72 (by decide), h5, d_m168, nI_add, if_neg (nI_in (show 168 * p + k < 1680 by omega) (by omega)), if_neg (nI_in hk (by omega)), d_cl (show k < 2147483648 by omega), d_cl (show 168 * p + k < 2147483648 by omega), d_p1, h1 77 (by decide)]
      · by_cases e : j = k
        · subst e; rw [d_up_eq]
        · rw [d_up_nk (by omega)]; exact h2 j (by omega))
    (fun n t hI => by
      show f_X12_undo_h30 (n + 1) _ _ = _
      rw [f_X12_undo_h30, if_pos (by decide), hI.1 72 (by decide), h5]) 168 0 ga_fuel s (by omega) (d_fuel (by omega)) ⟨fun _ _ => rfl, fun j hj => by omega⟩
  exact ⟨s2, e1, i1, i2⟩
theorem o_undo (hW : dW N Q P) (hX : dWH N m H) (hm10 : m ≤ 10) : dCo N Q P m H f_X11_undo f_X12_undo (dK 1 1) := by
  have hNw := hW.1
  have hB := dWN_b hNw
  by_cases hm0 : m = 0
  · subst hm0
    refine ⟨P, 0, H, .inr 1, hW, hX, fun s h hh => ⟨s, ?_, dFc_refl s, h, hh⟩, fun s h hh => ⟨0, ga_up s 72 6 1, ?_, dFm_726 s 1, dM_726 h 1, dMH_726 hh 1, by decide, by rw [d_up_eq]; rfl⟩⟩
    · obtain ⟨o, hr⟩ := hh
      rw [fe_X11_undo]; unfold fb_X11_undo
      rw [hr.2.2.2.1, if_neg (by decide)]
    · rw [fe_X12_undo]; unfold fb_X12_undo
      rw [hh.2.1, if_pos (by decide), ve_X12_no]
      rfl
  · refine ⟨H (m - 1), m - 1, H, .inl (nI (m - 1)), ⟨hNw, hW.2.1, hX (m - 1) (by omega)⟩, fun p hp => hX p (by omega), fun s h hh => ?_, fun s h hh => ?_⟩
    · obtain ⟨o, hr⟩ := hh
      have hd : nI m - 1 = nI (m - 1) := pk_sub (a := m) (b := 1) (by omega)
      have hmk : dCHm N (m - 1) H (H (m - 1)) (ga_up s 42 3 (nI (m - 1))) :=
        ⟨o, ⟨by omega, hr.2.1, by rw [d_up_nk (by omega)]; exact hr.2.2.1, by rw [d_up_eq], fun p hp => dPl_cong (d_up_ne (by decide)) (hr.2.2.2.2 p (by omega))⟩, dPl_cong (d_up_ne (by decide)) (hr.2.2.2.2 (m - 1) (by omega))⟩
      obtain ⟨s2, e2, f2, g2⟩ := dc_restore (show N 6 ≤ 40 by omega) hmk
      refine ⟨s2, ?_, fun c hc => by rw [f2 c (by omega) (by omega) (by omega) (by omega) (by omega), d_up_ne (by omega)], dC_plan h (fun c hc => by rw [f2 c (by omega) (by omega) (by omega) (by omega) (by omega), d_up_ne (by omega)]) g2, dCH_cong (f2 42 (by omega) (by omega) (by omega) (by omega) (by omega)) (f2 44 (by omega) (by omega) (by omega) (by omega) (by omega)) (dCHm_CH hmk)⟩
      rw [fe_X11_undo]; unfold fb_X11_undo
      rw [hr.2.2.2.1, if_pos (show (0 : Int32) < nI m from nI_lt (a := 0) (by omega) (by omega)), fe_X1_restoreLatest]
      unfold fb_X1_restoreLatest
      dsimp only
      rw [hr.2.2.2.1, hd, e2, Option.bind_some, Option.bind_some, f2 42 (by omega) (by omega) (by omega) (by omega) (by omega), d_up_eq]
    · have hd : nI m - 1 = nI (m - 1) := pk_sub (a := m) (b := 1) (by omega)
      have e5 : (ga_up (ga_up s 72 6 0) 72 5 (nI (m - 1))) 72 5 = nI (m - 1) := d_up_eq
      obtain ⟨s2, e2, f2, g2⟩ := dm_undo30 (show N 6 ≤ 40 by omega) (show m - 1 < 10 by omega) e5
      have hf : ∀ c, c ≠ 72 → (ga_up (ga_up s 72 6 0) 72 5 (nI (m - 1))) c = s c := fun c hc => by rw [d_up_ne hc, d_up_ne hc]
      refine ⟨nI (m - 1), s2, ?_, ⟨fun c hc => by rw [f2 c (by omega), hf c (by omega)], by rw [f2 80 (by omega), hf 80 (by omega)], by rw [f2 81 (by omega), hf 81 (by omega)], by rw [f2 82 (by omega), hf 82 (by omega)], ?_, ?_, ?_, ?_⟩, ⟨?_, ?_⟩, ⟨by omega, by rw [f2 72 (by omega)]; exact e5, fun p hp => ?_⟩, rfl, ?_⟩
      · rw [fe_X12_undo]; unfold fb_X12_undo
        dsimp only
        rw [hh.2.1, if_neg (nI_ne0 (by omega) (by omega)), d_up_nk (by omega), hh.2.1, hd]
        exact e2
      · rw [f2 72 (by omega), d_up_nk (by omega), d_up_nk (by omega)]
      · rw [f2 72 (by omega), d_up_nk (by omega), d_up_nk (by omega)]
      · rw [f2 72 (by omega), d_up_nk (by omega), d_up_nk (by omega)]
      · rw [f2 72 (by omega), d_up_nk (by omega), d_up_nk (by omega)]
      · have h1 := h.1
        unfold dMS at *
        rw [f2 73 (by omega), hf 73 (by omega)]
        exact h1
      · exact dMP_l.mpr (dMl_cong (by omega) (fun i hi => by rw [Nat.zero_add, g2 i hi, hf 77 (by omega)]) (hh.2.2 (m - 1) (by omega)))
      · exact dMl_cong (by omega) (fun i hi => by rw [f2 77 (by omega), hf 77 (by omega)]) (hh.2.2 p (by omega))
      · rw [f2 72 (by omega), d_up_nk (by omega), d_up_eq]
def dCz (N : Nat → Nat) (Q P : Nat → Nat → Int32) (m : Nat) (H : Nat → Nat → Nat → Int32) (fc fm : ga_M → Option (Int32 × ga_M)) : Prop :=
  ∃ (P2 : Nat → Nat → Int32) (m2 : Nat) (H2 : Nat → Nat → Nat → Int32) (v : Int32), dW N Q P2 ∧ dWH N m2 H2 ∧
    (∀ s, dC N Q P s → dCH N m H s → ∃ s1, fc s = some (v, s1) ∧ dFc s s1 ∧ dC N Q P2 s1 ∧ dCH N m2 H2 s1) ∧
    ∀ s, dM N Q P s → dMH N m H s → ∃ s2, fm s = some (v, s2) ∧ dFm s s2 ∧ dM N Q P2 s2 ∧ dMH N m2 H2 s2
theorem o_repairAll (hW : dW N Q P) (hX : dWH N m H) (hm10 : m ≤ 10) : dCz N Q P m H f_X11_repairAll f_X12_repairAll := by
  have hNw := hW.1
  have hB := dWN_b hNw
  obtain ⟨P2, v, hW2, hc, hm⟩ := d_repairs hNw (N 6) 0 P 0 (by omega) hW
  refine ⟨P2, hN m, hH m H P, v, hW2, dWH_push hX hm10 hW.2.2, fun s h hh => ?_, fun s h hh => ?_⟩
  · have hact : dAc N Q P P2 f_X2_repairOpenLessons v := fun s h => by
      rw [fe_X2_repairOpenLessons]; exact hc s ga_fuel (d_fuel (by omega)) h
    obtain ⟨s3, s4, s5, e3, e4, e5, f5, h5, hh5⟩ := c_mkk hNw (act := f_X2_repairOpenLessons) hact h hh
    refine ⟨s5, ?_, f5, h5, hh5⟩
    rw [fe_X11_repairAll]; unfold fb_X11_repairAll
    simp only [e3, e4, e5, d_fails1, d_fails0, d_10, d_01, d_00, d_11, true_or, or_true, or_self, if_true, if_false, reduceIte, Option.elim_none, Option.elim_some, Option.bind_some, d_up_up]
  · obtain ⟨s4, e4, f4, g4, _, i4, j4⟩ := m_rem hNw (dM_726 h 0) (dMH_726 hh 0)
    obtain ⟨s5, e5, f5, g5⟩ := hm s4 ga_fuel (d_fuel (by omega)) i4
    refine ⟨s5, ?_, dFm_trans (dFm_726 s 0) (dFm_trans f4 (dFm_q f5)), g5, dMH_q f5 j4⟩
    rw [fe_X12_repairAll]; unfold fb_X12_repairAll
    dsimp only
    rw [e4, Option.bind_some, fe_X12_repairsAll]
    unfold fb_X12_repairsAll
    rw [show f_X12_repairsAll_h4 ga_fuel 0 0 s4 = _ from e5, Option.bind_some]
theorem o_reset (hW : dW N Q P) (hX : dWH N m H) (hm10 : m ≤ 10) : dCz N Q P m H f_X11_reset f_X12_reset := by
  have hNw := hW.1
  have hB := dWN_b hNw
  refine ⟨pF N Q P (N 6), hN m, hH m H P, aDiffs N Q P, ⟨hNw, hW.2.1, dWP_pF hW.2.1⟩, dWH_push hX hm10 hW.2.2, fun s h hh => ?_, fun s h hh => ?_⟩
  · have hact : dAc N Q P (pF N Q P (N 6)) (fun s => (f_X3_returnToFirst s).map fun t => (0, t)) 0 := fun s h => by
      obtain ⟨s1, e1, f1, g1⟩ := c_return hNw hW.2.1 h
      exact ⟨s1, by show Option.map _ (f_X3_returnToFirst s) = _; rw [e1]; rfl, f1, g1⟩
    obtain ⟨s3, s4, s5, e3, e4, e5, f5, h5, hh5⟩ := c_mkk hNw hact h hh
    have e4' : f_X3_returnToFirst s3 = some s4 := by
      cases e : f_X3_returnToFirst s3 with
      | none => rw [e] at e4; cases e4
      | some t =>
        rw [e] at e4
        have := Option.some.inj e4
        rw [(Prod.mk.inj this).2]
    refine ⟨s5, ?_, f5, h5, hh5⟩
    rw [fe_X11_reset]; unfold fb_X11_reset
    simp only [dc_differing hNw h, e3, e4', e5, d_fails1, d_fails0, d_10, d_01, d_00, d_11, true_or, or_true, or_self, if_true, if_false, reduceIte, Option.elim_none, Option.elim_some, Option.bind_some, d_up_up]
  · obtain ⟨s4, e4, f4, g4, _, i4, j4⟩ := m_rem hNw (dM_726 h 0) (dMH_726 hh 0)
    obtain ⟨s5, e5, f5, g5⟩ := m_reset hNw hW.2.1 i4 (aDiffs N Q P)
    refine ⟨s5, ?_, dFm_trans (dFm_726 s 0) (dFm_trans f4 (dFm_q f5)), g5, dMH_q f5 j4⟩
    rw [fe_X12_reset]; unfold fb_X12_reset
    dsimp only
    rw [e4, Option.bind_some, dm_differences hNw i4, Option.bind_some, e5]
end D38
