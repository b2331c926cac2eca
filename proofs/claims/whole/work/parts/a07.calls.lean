section D37
/-! ===== the changes as calls ===== -/
variable {N : Nat → Nat} {Q P : Nat → Nat → Int32} {s : ga_M} {m : Nat} {H : Nat → Nat → Nat → Int32}
theorem d_l00 : ((0 : Int32) ≤ 0) = True := eq_true (by decide)
def dCo (N : Nat → Nat) (Q P : Nat → Nat → Int32) (m : Nat) (H : Nat → Nat → Nat → Int32) (fc : ga_M → Option ((Int32 ⊕ Nat) × ga_M)) (fm : ga_M → Option (Int32 × ga_M)) (cd : Nat → Int32) : Prop :=
  ∃ (P2 : Nat → Nat → Int32) (m2 : Nat) (H2 : Nat → Nat → Nat → Int32) (r : Int32 ⊕ Nat), dW N Q P2 ∧ dWH N m2 H2 ∧
    (∀ s, dC N Q P s → dCH N m H s → ∃ s1, fc s = some (r, s1) ∧ dFc s s1 ∧ dC N Q P2 s1 ∧ dCH N m2 H2 s1) ∧
    ∀ s, dM N Q P s → dMH N m H s → ∃ b s2, fm s = some (b, s2) ∧ dFm s s2 ∧ dM N Q P2 s2 ∧ dMH N m2 H2 s2 ∧ Sum.elim (fun v => b = v ∧ s2 72 6 = 0) (fun e => cd e ≠ 0 ∧ s2 72 6 = cd e) r
theorem dMH_726 (h : dMH N m H s) (x : Int32) : dMH N m H (ga_up s 72 6 x) := dMH_cong (d_up_nk (by decide)) (d_up_ne (by decide)) h
theorem dCo_no {fc : ga_M → Option ((Int32 ⊕ Nat) × ga_M)} {fm : ga_M → Option (Int32 × ga_M)} {cd : Nat → Int32} (hW : dW N Q P) (hX : dWH N m H) (e : Nat) (hcd : cd e ≠ 0) (hc : ∀ s, dC N Q P s → fc s = some (.inr e, s)) (hm : ∀ s, dM N Q P s → fm s = some (0, ga_up s 72 6 (cd e))) : dCo N Q P m H fc fm cd :=
  ⟨P, m, H, .inr e, hW, hX, fun s h hh => ⟨s, hc s h, dFc_refl s, h, hh⟩, fun s h hh => ⟨0, _, hm s h, dFm_726 s _, dM_726 h _, dMH_726 hh _, hcd, by rw [d_up_eq]⟩⟩
theorem dFc_p {s s1 : ga_M} (h : dFp s s1) : dFc s s1 := fun c hc => h c (by omega)
theorem dWH_push (hX : dWH N m H) (hm : m ≤ 10) (hP : dWP N P) : dWH N (hN m) (hH m H P) := by
  intro p hp
  unfold hN at hp
  unfold hH
  by_cases c : m < 10
  · rw [if_pos c] at hp ⊢
    by_cases e : p = m
    · rw [if_pos e]; exact hP
    · rw [if_neg e]; exact hX p (by omega)
  · rw [if_neg c] at hp ⊢
    by_cases e : p = 9
    · rw [if_pos e]; exact hP
    · rw [if_neg e]; exact hX (p + 1) (by omega)
/-- mark, act, keep unless it is refused -/
theorem c_mka {P2 : Nat → Nat → Int32} {act : ga_M → Option (Int32 × ga_M)} (hNw : dWN N) (hact : dAc N Q P P2 act 1) (h : dC N Q P s) (hh : dCH N m H s) :
    ∃ s3 s4 s5, f_X1_mark s = some s3 ∧ act s3 = some (1, s4) ∧ f_X11_keepUnlessRefused 1 s4 = some (none, s5) ∧ dFc s s5 ∧ dC N Q P2 s5 ∧ dCH N (hN m) (hH m H P) s5 := by
  have hB := dWN_b hNw
  obtain ⟨s3, e3, f3, g3⟩ := dc_mark (by omega) h hh
  have h3 : dC N Q P s3 := dC_lt (fun c hc => f3 c (by omega)) h
  obtain ⟨s4, e4, f4, g4⟩ := hact s3 h3
  obtain ⟨s5, e5, f5, g5⟩ := dc_keep (dCHm_cong (f4 42 (by omega)) (f4 44 (by omega)) g3)
  refine ⟨s3, s4, s5, e3, e4, ?_, fun c hc => by rw [f5 c (by omega), f4 c (by omega), f3 c (by omega)], dC_lt (fun c hc => f5 c (by omega)) g4, g5⟩
  rw [fe_X11_keepUnlessRefused]; unfold fb_X11_keepUnlessRefused
  rw [if_neg (by decide), e5, Option.bind_some]
theorem c_mkn {act : ga_M → Option (Int32 × ga_M)} (hNw : dWN N) (hact : dAc N Q P P act 0) (h : dC N Q P s) (hh : dCH N m H s) :
    ∃ s3 s4, f_X1_mark s = some s3 ∧ act s3 = some (0, s4) ∧ f_X11_keepUnlessRefused 0 s4 = some (some 1, s4) ∧ dFc s s4 ∧ dC N Q P s4 ∧ dCH N m H s4 := by
  have hB := dWN_b hNw
  obtain ⟨s3, e3, f3, g3⟩ := dc_mark (by omega) h hh
  have h3 : dC N Q P s3 := dC_lt (fun c hc => f3 c (by omega)) h
  obtain ⟨s4, e4, f4, g4⟩ := hact s3 h3
  refine ⟨s3, s4, e3, e4, ?_, fun c hc => by rw [f4 c (by omega), f3 c (by omega)], g4, dCH_cong (f4 42 (by omega)) (f4 44 (by omega)) (dCHm_CH g3)⟩
  rw [fe_X11_keepUnlessRefused]; unfold fb_X11_keepUnlessRefused
  rw [if_pos rfl]
/-- mark, act, keep -/
theorem c_mkk {P2 : Nat → Nat → Int32} {act : ga_M → Option (Int32 × ga_M)} {v : Int32} (hNw : dWN N) (hact : dAc N Q P P2 act v) (h : dC N Q P s) (hh : dCH N m H s) :
    ∃ s3 s4 s5, f_X1_mark s = some s3 ∧ act s3 = some (v, s4) ∧ f_X1_keepMarked s4 = some s5 ∧ dFc s s5 ∧ dC N Q P2 s5 ∧ dCH N (hN m) (hH m H P) s5 := by
  have hB := dWN_b hNw
  obtain ⟨s3, e3, f3, g3⟩ := dc_mark (by omega) h hh
  have h3 : dC N Q P s3 := dC_lt (fun c hc => f3 c (by omega)) h
  obtain ⟨s4, e4, f4, g4⟩ := hact s3 h3
  obtain ⟨s5, e5, f5, g5⟩ := dc_keep (dCHm_cong (f4 42 (by omega)) (f4 44 (by omega)) g3)
  exact ⟨s3, s4, s5, e3, e4, e5, fun c hc => by rw [f5 c (by omega), f4 c (by omega), f3 c (by omega)], dC_lt (fun c hc => f5 c (by omega)) g4, g5⟩
theorem dFm_q {s s1 : ga_M} (h : dFq s s1) : dFm s s1 :=
  ⟨fun c hc => h.1 c (by omega) (by omega) (by omega) (by omega), h.1 80 (by omega) (by omega) (by omega) (by omega), h.1 81 (by omega) (by omega) (by omega) (by omega), h.1 82 (by omega) (by omega) (by omega) (by omega), h.2 12 (by omega) (by omega), h.2 16 (by omega) (by omega), h.2 17 (by omega) (by omega), h.2 19 (by omega) (by omega)⟩
theorem dMH_q {s s1 : ga_M} (h : dFq s s1) (hh : dMH N m H s) : dMH N m H s1 := dMH_cong (h.2 5 (by omega) (by omega)) (h.1 77 (by omega) (by omega) (by omega) (by omega)) hh
theorem m_rem (hNw : dWN N) (h : dM N Q P s) (hh : dMH N m H s) : ∃ s4, f_X12_remember s = some s4 ∧ dFm s s4 ∧ (∀ f, f ≠ 5 → s4 72 f = s 72 f) ∧ (∀ c, c ≠ 72 → c ≠ 76 → c ≠ 77 → s4 c = s c) ∧ dM N Q P s4 ∧ dMH N (hN m) (hH m H P) s4 := by
  have hB := dWN_b hNw
  obtain ⟨s4, e4, f4, g4, i4⟩ := dm_remember (show N 6 ≤ 40 by omega) hh h
  exact ⟨s4, e4, ⟨fun c hc => f4 c (by omega) (by omega) (by omega), f4 80 (by omega) (by omega) (by omega), f4 81 (by omega) (by omega) (by omega), f4 82 (by omega) (by omega) (by omega), g4 12 (by omega), g4 16 (by omega), g4 17 (by omega), g4 19 (by omega)⟩, g4, f4, dM_cong (f4 73 (by omega) (by omega) (by omega)) (f4 75 (by omega) (by omega) (by omega)) h, i4⟩
theorem m_act {P2 : Nat → Nat → Int32} {fm : ga_M → Option ga_M} (hNw : dWN N) (hact : dAm N Q P P2 fm) (h : dM N Q P s) (hh : dMH N m H s) : ∃ s4 s5, f_X12_remember (ga_up s 72 6 0) = some s4 ∧ fm s4 = some s5 ∧ dFm s s5 ∧ s5 72 6 = 0 ∧ dM N Q P s4 ∧ dM N Q P2 s5 ∧ dMH N (hN m) (hH m H P) s5 := by
  obtain ⟨s4, e4, f4, g4, _, i4, j4⟩ := m_rem hNw (dM_726 h 0) (dMH_726 hh 0)
  obtain ⟨s5, e5, f5, g5⟩ := hact s4 i4
  exact ⟨s4, s5, e4, e5, dFm_trans (dFm_726 s 0) (dFm_trans f4 (dFm_q f5)), by rw [f5.2 6 (by omega) (by omega), g4 6 (by omega), d_up_eq], i4, g5, dMH_q f5 j4⟩
theorem aCover_le {l t : Nat} : (aCover N Q P l t ≤ 0) = (aCover N Q P l t = 0) := by
  unfold aCover
  repeat' split
  all_goals decide
theorem aSuper_le {l t : Nat} : (aSuper N P l t ≤ 0) = (aSuper N P l t = 0) := by
  unfold aSuper
  repeat' split
  all_goals decide
theorem aMove_le {l : Nat} {x : Int32} : (aMove N Q P l x ≤ 0) = (aMove N Q P l x = 0) := by
  unfold aMove
  repeat' split
  all_goals decide
theorem aRoom_le {l r : Nat} : (aRoom N Q P l r ≤ 0) = (aRoom N Q P l r = 0) := by
  unfold aRoom
  repeat' split
  all_goals decide
theorem aCover_0 (hN : dWN N) {l t : Nat} (h : aCover N Q P l t = 0) : ∀ k, k < N 6 → k ≠ l → P 0 k = P 0 l → P 1 k ≠ nI t := by
  unfold aCover at h
  split at h
  · exact absurd h (by decide)
  split at h
  · exact absurd h (by decide)
  split at h
  · exact absurd h (by decide)
  split at h
  · exact absurd h (by decide)
  rename_i h4
  intro k hk _ e
  exact aAt_none hN (by simpa using h4) k hk e
theorem aSuper_0 (hN : dWN N) {l t : Nat} (h : aSuper N P l t = 0) : ∀ k, k < N 6 → k ≠ l → P 0 k = P 0 l → P 1 k ≠ nI t := by
  unfold aSuper at h
  split at h
  · exact absurd h (by decide)
  split at h
  · exact absurd h (by decide)
  split at h
  · exact absurd h (by decide)
  rename_i h4
  intro k hk _ e
  exact aAt_none hN (by simpa using h4) k hk e
theorem aMove_0 (hN : dWN N) {l x : Nat} (h : aMove N Q P l (nI x) = 0) : (P 1 l ≠ -1 → ∀ k, k < N 6 → k ≠ l → P 0 k = nI x → P 1 k ≠ P 1 l) ∧ ∀ k, k < N 6 → k ≠ l → P 0 k = nI x → P 2 k ≠ P 2 l := by
  unfold aMove at h
  split at h
  · exact absurd h (by decide)
  split at h
  · exact absurd h (by decide)
  split at h
  · exact absurd h (by decide)
  split at h
  · exact absurd h (by decide)
  rename_i h5
  split at h
  · exact absurd h (by decide)
  rename_i h6
  refine ⟨fun hn k hk _ e => ?_, fun k hk _ e => aAt_none hN (by simpa using h6) k hk e⟩
  have : aAt N P 1 (nI x) (P 1 l) = -1 := by
    by_cases c : aAt N P 1 (nI x) (P 1 l) = -1
    · exact c
    · exact absurd ⟨hn, c⟩ h5
  exact aAt_none hN this k hk e
theorem aRoom_0 (hN : dWN N) {l r : Nat} (h : aRoom N Q P l r = 0) : ∀ k, k < N 6 → k ≠ l → P 0 k = P 0 l → P 2 k ≠ nI r := by
  unfold aRoom at h
  split at h
  · exact absurd h (by decide)
  split at h
  · exact absurd h (by decide)
  split at h
  · exact absurd h (by decide)
  rename_i h4
  intro k hk _ e
  exact aAt_none hN (by simpa using h4) k hk e
theorem o_cover (hW : dW N Q P) (hX : dWH N m H) (hm10 : m ≤ 10) (a b : Int32) : dCo N Q P m H (f_X11_cover a b) (f_X12_cover a b) (dK 3 1) := by
  have hNw := hW.1
  have hB := dWN_b hNw
  rcases d_in a (N 6) (by omega) with ⟨i, hi, rfl⟩ | ⟨_, hn⟩
  · rcases d_in b (N 3) (by omega) with ⟨j, hj, rfl⟩ | ⟨_, hn⟩
    · by_cases hr : aCover N Q P i j = 0
      · have hW2 : dW N Q (pT P i (nI j) 0) := ⟨hNw, hW.2.1, dWP_teach hNw hW.2.2 hj (Or.inl rfl) (aCover_0 hNw hr)⟩
        refine ⟨pT P i (nI j) 0, hN m, hH m H P, .inl (aLoad N Q (pT P i (nI j) 0) (nI j)), hW2, dWH_push hX hm10 hW.2.2, fun s h hh => ?_, fun s h hh => ?_⟩
        · have hact := c_letCover hW hi hj
          rw [if_pos hr, decide_eq_true hr] at hact
          obtain ⟨s3, s4, s5, e3, e4, e5, f5, h5, hh5⟩ := c_mka hNw (act := f_X2_letCover (nI i) (nI j)) hact h hh
          refine ⟨s5, ?_, f5, h5, hh5⟩
          rw [fe_X11_cover]; unfold fb_X11_cover
          simp (disch := omega) only [cL_y hNw h hi, cT_y hNw h hj, e3, e4, e5, dc_loadOf hNw h5, d_fails1, d_fails0, d_10, d_01, d_00, d_11, true_or, or_true, or_self, if_true, if_false, reduceIte, Option.elim_none, Option.elim_some, Option.bind_some, d_up_up]
        · have h0 := dM_726 h 0
          obtain ⟨s4, s5, e4, e5, f5, t5, _, h5, hh5⟩ := m_act hNw (m_gives hW hi (nI j) 0) h hh
          refine ⟨_, s5, ?_, f5, h5, hh5, rfl, t5⟩
          rw [fe_X12_cover]; unfold fb_X12_cover
          simp (disch := omega) only [mL_y hNw h hi, mT_y hNw h hj, dm_againstCover hW h0 hi hj, aCover_le, hr, d_l00, e4, e5, dm_loadOf hNw h5 (d_ne1 (show j < 2147483648 by omega)), d_fails1, d_fails0, d_10, d_01, d_00, d_11, true_or, or_true, or_self, if_true, if_false, reduceIte, Option.elim_none, Option.elim_some, Option.bind_some, d_up_up]
      · refine ⟨P, m, H, .inr 1, hW, hX, fun s h hh => ?_, fun s h hh => ?_⟩
        · have hact := c_letCover hW hi hj
          rw [if_neg hr, decide_eq_false hr] at hact
          obtain ⟨s3, s4, e3, e4, e5, f5, h5, hh5⟩ := c_mkn hNw (act := f_X2_letCover (nI i) (nI j)) hact h hh
          refine ⟨s4, ?_, f5, h5, hh5⟩
          rw [fe_X11_cover]; unfold fb_X11_cover
          simp only [cL_y hNw h hi, cT_y hNw h hj, e3, e4, e5, d_fails1, d_fails0, d_10, d_01, d_00, d_11, true_or, or_true, or_self, if_true, if_false, reduceIte, Option.elim_none, Option.elim_some, Option.bind_some, d_up_up]
        · have h0 := dM_726 h 0
          refine ⟨0, ga_up s 72 6 2, ?_, dFm_726 s 2, dM_726 h 2, dMH_726 hh 2, by decide, by rw [d_up_eq]; rfl⟩
          rw [fe_X12_cover]; unfold fb_X12_cover
          simp only [mL_y hNw h hi, mT_y hNw h hj, dm_againstCover hW h0 hi hj, aCover_le, hr, d_fails1, d_fails0, d_10, d_01, d_00, d_11, true_or, or_true, or_self, if_true, if_false, reduceIte, Option.elim_none, Option.elim_some, Option.bind_some, d_up_up]
    · refine dCo_no hW hX 3 (by decide) (fun s h => ?_) (fun s h => ?_)
      · rw [fe_X11_cover]; unfold fb_X11_cover
        simp only [cL_y hNw h hi, cT_n hNw h hn, d_fails1, d_fails0, d_10, d_01, d_00, d_11, true_or, or_true, or_self, if_true, if_false, reduceIte, Option.elim_none, Option.elim_some, Option.bind_some, d_up_up]
      · rw [fe_X12_cover]; unfold fb_X12_cover
        simp only [mL_y hNw h hi, mT_n hNw h hn, dK_a, dK_31, dK_32, dK_34, d_fails1, d_fails0, d_10, d_01, d_00, d_11, true_or, or_true, or_self, if_true, if_false, reduceIte, Option.elim_none, Option.elim_some, Option.bind_some, d_up_up]
  · refine dCo_no hW hX 3 (by decide) (fun s h => ?_) (fun s h => ?_)
    · rw [fe_X11_cover]; unfold fb_X11_cover
      simp only [cL_n hNw h hn, d_fails1, d_fails0, d_10, d_01, d_00, d_11, true_or, or_true, or_self, if_true, if_false, reduceIte, Option.elim_none, Option.elim_some, Option.bind_some, d_up_up]
    · rw [fe_X12_cover]; unfold fb_X12_cover
      simp only [mL_n hNw h hn, dK_a, dK_31, dK_32, dK_34, d_fails1, d_fails0, d_10, d_01, d_00, d_11, true_or, or_true, or_self, if_true, if_false, reduceIte, Option.elim_none, Option.elim_some, Option.bind_some, d_up_up]
theorem o_supervise (hW : dW N Q P) (hX : dWH N m H) (hm10 : m ≤ 10) (a b : Int32) : dCo N Q P m H (f_X11_supervise a b) (f_X12_supervise a b) (dK 3 1) := by
  have hNw := hW.1
  have hB := dWN_b hNw
  rcases d_in a (N 6) (by omega) with ⟨i, hi, rfl⟩ | ⟨_, hn⟩
  · rcases d_in b (N 3) (by omega) with ⟨j, hj, rfl⟩ | ⟨_, hn⟩
    · by_cases hr : aSuper N P i j = 0
      · have hW2 : dW N Q (pT P i (nI j) 1) := ⟨hNw, hW.2.1, dWP_teach hNw hW.2.2 hj (Or.inr rfl) (aSuper_0 hNw hr)⟩
        refine ⟨pT P i (nI j) 1, hN m, hH m H P, .inl (aDut N (pT P i (nI j) 1) (nI j)), hW2, dWH_push hX hm10 hW.2.2, fun s h hh => ?_, fun s h hh => ?_⟩
        · have hact := c_letSupervise hW hi hj
          rw [if_pos hr, decide_eq_true hr] at hact
          obtain ⟨s3, s4, s5, e3, e4, e5, f5, h5, hh5⟩ := c_mka hNw (act := f_X2_letSupervise (nI i) (nI j)) hact h hh
          refine ⟨s5, ?_, f5, h5, hh5⟩
          rw [fe_X11_supervise]; unfold fb_X11_supervise
          simp (disch := omega) only [cL_y hNw h hi, cT_y hNw h hj, e3, e4, e5, dc_dutiesOf hNw h5, d_fails1, d_fails0, d_10, d_01, d_00, d_11, true_or, or_true, or_self, if_true, if_false, reduceIte, Option.elim_none, Option.elim_some, Option.bind_some, d_up_up]
        · have h0 := dM_726 h 0
          obtain ⟨s4, s5, e4, e5, f5, t5, _, h5, hh5⟩ := m_act hNw (m_gives hW hi (nI j) 1) h hh
          refine ⟨_, s5, ?_, f5, h5, hh5, rfl, t5⟩
          rw [fe_X12_supervise]; unfold fb_X12_supervise
          simp (disch := omega) only [mL_y hNw h hi, mT_y hNw h hj, dm_againstSupervision hW h0 hi hj, aSuper_le, hr, d_l00, e4, e5, dm_dutiesAll hNw h5, d_fails1, d_fails0, d_10, d_01, d_00, d_11, true_or, or_true, or_self, if_true, if_false, reduceIte, Option.elim_none, Option.elim_some, Option.bind_some, d_up_up]
      · refine ⟨P, m, H, .inr 1, hW, hX, fun s h hh => ?_, fun s h hh => ?_⟩
        · have hact := c_letSupervise hW hi hj
          rw [if_neg hr, decide_eq_false hr] at hact
          obtain ⟨s3, s4, e3, e4, e5, f5, h5, hh5⟩ := c_mkn hNw (act := f_X2_letSupervise (nI i) (nI j)) hact h hh
          refine ⟨s4, ?_, f5, h5, hh5⟩
          rw [fe_X11_supervise]; unfold fb_X11_supervise
          simp only [cL_y hNw h hi, cT_y hNw h hj, e3, e4, e5, d_fails1, d_fails0, d_10, d_01, d_00, d_11, true_or, or_true, or_self, if_true, if_false, reduceIte, Option.elim_none, Option.elim_some, Option.bind_some, d_up_up]
        · have h0 := dM_726 h 0
          refine ⟨0, ga_up s 72 6 2, ?_, dFm_726 s 2, dM_726 h 2, dMH_726 hh 2, by decide, by rw [d_up_eq]; rfl⟩
          rw [fe_X12_supervise]; unfold fb_X12_supervise
          simp only [mL_y hNw h hi, mT_y hNw h hj, dm_againstSupervision hW h0 hi hj, aSuper_le, hr, d_fails1, d_fails0, d_10, d_01, d_00, d_11, true_or, or_true, or_self, if_true, if_false, reduceIte, Option.elim_none, Option.elim_some, Option.bind_some, d_up_up]
    · refine dCo_no hW hX 3 (by decide) (fun s h => ?_) (fun s h => ?_)
      · rw [fe_X11_supervise]; unfold fb_X11_supervise
        simp only [cL_y hNw h hi, cT_n hNw h hn, d_fails1, d_fails0, d_10, d_01, d_00, d_11, true_or, or_true, or_self, if_true, if_false, reduceIte, Option.elim_none, Option.elim_some, Option.bind_some, d_up_up]
      · rw [fe_X12_supervise]; unfold fb_X12_supervise
        simp only [mL_y hNw h hi, mT_n hNw h hn, dK_a, dK_31, dK_32, dK_34, d_fails1, d_fails0, d_10, d_01, d_00, d_11, true_or, or_true, or_self, if_true, if_false, reduceIte, Option.elim_none, Option.elim_some, Option.bind_some, d_up_up]
  · refine dCo_no hW hX 3 (by decide) (fun s h => ?_) (fun s h => ?_)
    · rw [fe_X11_supervise]; unfold fb_X11_supervise
      simp only [cL_n hNw h hn, d_fails1, d_fails0, d_10, d_01, d_00, d_11, true_or, or_true, or_self, if_true, if_false, reduceIte, Option.elim_none, Option.elim_some, Option.bind_some, d_up_up]
    · rw [fe_X12_supervise]; unfold fb_X12_supervise
      simp only [mL_n hNw h hn, dK_a, dK_31, dK_32, dK_34, d_fails1, d_fails0, d_10, d_01, d_00, d_11, true_or, or_true, or_self, if_true, if_false, reduceIte, Option.elim_none, Option.elim_some, Option.bind_some, d_up_up]
theorem o_exchange (hW : dW N Q P) (hX : dWH N m H) (hm10 : m ≤ 10) (a b : Int32) : dCo N Q P m H (f_X11_exchange a b) (f_X12_exchange a b) (dK 3 1) := by
  have hNw := hW.1
  have hB := dWN_b hNw
  rcases d_in a (N 6) (by omega) with ⟨i, hi, rfl⟩ | ⟨_, hn⟩
  · rcases d_in b (N 6) (by omega) with ⟨j, hj, rfl⟩ | ⟨_, hn⟩
    · by_cases hr : aExch N Q P i j = 0
      · have hW2 : dW N Q (pW P i j) := ⟨hNw, hW.2.1, dWP_swap hNw hW.2.2 hi hj hr⟩
        refine ⟨pW P i j, hN m, hH m H P, .inl (pW P i j 0 i), hW2, dWH_push hX hm10 hW.2.2, fun s h hh => ?_, fun s h hh => ?_⟩
        · have hact := c_swapSlots hW hi hj
          rw [if_pos hr, decide_eq_true hr] at hact
          obtain ⟨s3, s4, s5, e3, e4, e5, f5, h5, hh5⟩ := c_mka hNw (act := f_X2_swapSlots (nI i) (nI j)) hact h hh
          refine ⟨s5, ?_, f5, h5, hh5⟩
          rw [fe_X11_exchange]; unfold fb_X11_exchange
          simp (disch := omega) only [cL_y hNw h hi, cL_y hNw h hj, e3, e4, e5, d_at, dc22 h5 hi, d_fails1, d_fails0, d_10, d_01, d_00, d_11, true_or, or_true, or_self, if_true, if_false, reduceIte, Option.elim_none, Option.elim_some, Option.bind_some, d_up_up]
        · have h0 := dM_726 h 0
          obtain ⟨s4, s5, e4, e5, f5, t5, _, h5, hh5⟩ := m_act hNw (m_swaps hW hi hj) h hh
          refine ⟨_, s5, ?_, f5, h5, hh5, rfl, t5⟩
          rw [fe_X12_exchange]; unfold fb_X12_exchange
          simp (disch := omega) only [mL_y hNw h hi, mL_y hNw h hj, dm_againstExchange hW h0 hi hj, aExch_le, hr, d_l00, e4, e5, d_a0, d_ix, d_cl, d_n0, d_lef, dm0 h5 hi, d_fails1, d_fails0, d_10, d_01, d_00, d_11, true_or, or_true, or_self, if_true, if_false, reduceIte, Option.elim_none, Option.elim_some, Option.bind_some, d_up_up]
      · refine ⟨P, m, H, .inr 1, hW, hX, fun s h hh => ?_, fun s h hh => ?_⟩
        · have hact := c_swapSlots hW hi hj
          rw [if_neg hr, decide_eq_false hr] at hact
          obtain ⟨s3, s4, e3, e4, e5, f5, h5, hh5⟩ := c_mkn hNw (act := f_X2_swapSlots (nI i) (nI j)) hact h hh
          refine ⟨s4, ?_, f5, h5, hh5⟩
          rw [fe_X11_exchange]; unfold fb_X11_exchange
          simp only [cL_y hNw h hi, cL_y hNw h hj, e3, e4, e5, d_fails1, d_fails0, d_10, d_01, d_00, d_11, true_or, or_true, or_self, if_true, if_false, reduceIte, Option.elim_none, Option.elim_some, Option.bind_some, d_up_up]
        · have h0 := dM_726 h 0
          refine ⟨0, ga_up s 72 6 2, ?_, dFm_726 s 2, dM_726 h 2, dMH_726 hh 2, by decide, by rw [d_up_eq]; rfl⟩
          rw [fe_X12_exchange]; unfold fb_X12_exchange
          simp only [mL_y hNw h hi, mL_y hNw h hj, dm_againstExchange hW h0 hi hj, aExch_le, hr, d_fails1, d_fails0, d_10, d_01, d_00, d_11, true_or, or_true, or_self, if_true, if_false, reduceIte, Option.elim_none, Option.elim_some, Option.bind_some, d_up_up]
    · refine dCo_no hW hX 3 (by decide) (fun s h => ?_) (fun s h => ?_)
      · rw [fe_X11_exchange]; unfold fb_X11_exchange
        simp only [cL_y hNw h hi, cL_n hNw h hn, d_fails1, d_fails0, d_10, d_01, d_00, d_11, true_or, or_true, or_self, if_true, if_false, reduceIte, Option.elim_none, Option.elim_some, Option.bind_some, d_up_up]
      · rw [fe_X12_exchange]; unfold fb_X12_exchange
        simp only [mL_y hNw h hi, mL_n hNw h hn, dK_a, dK_31, dK_32, dK_34, d_fails1, d_fails0, d_10, d_01, d_00, d_11, true_or, or_true, or_self, if_true, if_false, reduceIte, Option.elim_none, Option.elim_some, Option.bind_some, d_up_up]
  · refine dCo_no hW hX 3 (by decide) (fun s h => ?_) (fun s h => ?_)
    · rw [fe_X11_exchange]; unfold fb_X11_exchange
      simp only [cL_n hNw h hn, d_fails1, d_fails0, d_10, d_01, d_00, d_11, true_or, or_true, or_self, if_true, if_false, reduceIte, Option.elim_none, Option.elim_some, Option.bind_some, d_up_up]
    · rw [fe_X12_exchange]; unfold fb_X12_exchange
      simp only [mL_n hNw h hn, dK_a, dK_31, dK_32, dK_34, d_fails1, d_fails0, d_10, d_01, d_00, d_11, true_or, or_true, or_self, if_true, if_false, reduceIte, Option.elim_none, Option.elim_some, Option.bind_some, d_up_up]
theorem o_move (hW : dW N Q P) (hX : dWH N m H) (hm10 : m ≤ 10) (a b : Int32) : dCo N Q P m H (f_X11_move a b) (f_X12_move a b) (dK 3 1) := by
  have hNw := hW.1
  have hB := dWN_b hNw
  rcases d_in a (N 6) (by omega) with ⟨i, hi, rfl⟩ | ⟨_, hn⟩
  · rcases d_in b (dSl N) (by omega) with ⟨j, hj, rfl⟩ | ⟨_, hn⟩
    · by_cases hr : aMove N Q P i (nI j) = 0
      · have hW2 : dW N Q (pS P 0 i (nI j)) := ⟨hNw, hW.2.1, dWP_slot hW.2.2 hj (aMove_0 hNw hr).1 (aMove_0 hNw hr).2⟩
        refine ⟨pS P 0 i (nI j), hN m, hH m H P, .inl (P 0 i), hW2, dWH_push hX hm10 hW.2.2, fun s h hh => ?_, fun s h hh => ?_⟩
        · have hact := c_moveToSlot hW hi hj
          rw [if_pos hr, decide_eq_true hr] at hact
          obtain ⟨s3, s4, s5, e3, e4, e5, f5, h5, hh5⟩ := c_mka hNw (act := f_X2_moveToSlot (nI i) (nI j)) hact h hh
          refine ⟨s5, ?_, f5, h5, hh5⟩
          rw [fe_X11_move]; unfold fb_X11_move
          simp (disch := omega) only [cL_y hNw h hi, cS_y hNw h hj, e3, e4, e5, d_at, dc22 h hi, d_fails1, d_fails0, d_10, d_01, d_00, d_11, true_or, or_true, or_self, if_true, if_false, reduceIte, Option.elim_none, Option.elim_some, Option.bind_some, d_up_up]
        · have h0 := dM_726 h 0
          obtain ⟨s4, e4, f4, g4, _, i4, j4⟩ := m_rem hNw h0 (dMH_726 hh 0)
          refine ⟨_, ga_up s4 75 (i) (nI j), ?_, dFm_trans (dFm_726 s 0) (dFm_trans f4 (dFm_q (dFq_up _ _ _))), m_slot hW hi (nI j) i4, dMH_q (dFq_up _ _ _) j4, rfl, by rw [d_up_ne (by decide), g4 6 (by decide), d_up_eq]⟩
          rw [fe_X12_move]; unfold fb_X12_move
          simp (disch := omega) only [mL_y hNw h hi, mS_y hNw h hj, dm_againstMove hW h0 hi, aMove_le, hr, d_l00, e4, d_a0, d_ix, d_cl, d_n0, d_lef, dm0 i4 hi, d_fails1, d_fails0, d_10, d_01, d_00, d_11, true_or, or_true, or_self, if_true, if_false, reduceIte, Option.elim_none, Option.elim_some, Option.bind_some, d_up_up]
      · refine ⟨P, m, H, .inr 1, hW, hX, fun s h hh => ?_, fun s h hh => ?_⟩
        · have hact := c_moveToSlot hW hi hj
          rw [if_neg hr, decide_eq_false hr] at hact
          obtain ⟨s3, s4, e3, e4, e5, f5, h5, hh5⟩ := c_mkn hNw (act := f_X2_moveToSlot (nI i) (nI j)) hact h hh
          refine ⟨s4, ?_, f5, h5, hh5⟩
          rw [fe_X11_move]; unfold fb_X11_move
          simp only [cL_y hNw h hi, cS_y hNw h hj, e3, e4, e5, d_fails1, d_fails0, d_10, d_01, d_00, d_11, true_or, or_true, or_self, if_true, if_false, reduceIte, Option.elim_none, Option.elim_some, Option.bind_some, d_up_up]
        · have h0 := dM_726 h 0
          refine ⟨0, ga_up s 72 6 2, ?_, dFm_726 s 2, dM_726 h 2, dMH_726 hh 2, by decide, by rw [d_up_eq]; rfl⟩
          rw [fe_X12_move]; unfold fb_X12_move
          simp only [mL_y hNw h hi, mS_y hNw h hj, dm_againstMove hW h0 hi, aMove_le, hr, d_fails1, d_fails0, d_10, d_01, d_00, d_11, true_or, or_true, or_self, if_true, if_false, reduceIte, Option.elim_none, Option.elim_some, Option.bind_some, d_up_up]
    · refine dCo_no hW hX 3 (by decide) (fun s h => ?_) (fun s h => ?_)
      · rw [fe_X11_move]; unfold fb_X11_move
        simp only [cL_y hNw h hi, cS_n hNw h hn, d_fails1, d_fails0, d_10, d_01, d_00, d_11, true_or, or_true, or_self, if_true, if_false, reduceIte, Option.elim_none, Option.elim_some, Option.bind_some, d_up_up]
      · rw [fe_X12_move]; unfold fb_X12_move
        simp only [mL_y hNw h hi, mS_n hNw h hn, dK_a, dK_31, dK_32, dK_34, d_fails1, d_fails0, d_10, d_01, d_00, d_11, true_or, or_true, or_self, if_true, if_false, reduceIte, Option.elim_none, Option.elim_some, Option.bind_some, d_up_up]
  · refine dCo_no hW hX 3 (by decide) (fun s h => ?_) (fun s h => ?_)
    · rw [fe_X11_move]; unfold fb_X11_move
      simp only [cL_n hNw h hn, d_fails1, d_fails0, d_10, d_01, d_00, d_11, true_or, or_true, or_self, if_true, if_false, reduceIte, Option.elim_none, Option.elim_some, Option.bind_some, d_up_up]
    · rw [fe_X12_move]; unfold fb_X12_move
      simp only [mL_n hNw h hn, dK_a, dK_31, dK_32, dK_34, d_fails1, d_fails0, d_10, d_01, d_00, d_11, true_or, or_true, or_self, if_true, if_false, reduceIte, Option.elim_none, Option.elim_some, Option.bind_some, d_up_up]
theorem o_setRoom (hW : dW N Q P) (hX : dWH N m H) (hm10 : m ≤ 10) (a b : Int32) : dCo N Q P m H (f_X11_setRoom a b) (f_X12_setRoom a b) (dK 3 1) := by
  have hNw := hW.1
  have hB := dWN_b hNw
  rcases d_in a (N 6) (by omega) with ⟨i, hi, rfl⟩ | ⟨_, hn⟩
  · rcases d_in b (N 4) (by omega) with ⟨j, hj, rfl⟩ | ⟨_, hn⟩
    · by_cases hr : aRoom N Q P i j = 0
      · have hW2 : dW N Q (pS P 2 i (nI j)) := ⟨hNw, hW.2.1, dWP_room hW.2.2 hj (aRoom_0 hNw hr)⟩
        refine ⟨pS P 2 i (nI j), hN m, hH m H P, .inl (P 2 i), hW2, dWH_push hX hm10 hW.2.2, fun s h hh => ?_, fun s h hh => ?_⟩
        · have hact := c_moveToRoom hW hi hj
          rw [if_pos hr, decide_eq_true hr] at hact
          obtain ⟨s3, s4, s5, e3, e4, e5, f5, h5, hh5⟩ := c_mka hNw (act := f_X2_moveToRoom (nI i) (nI j)) hact h hh
          refine ⟨s5, ?_, f5, h5, hh5⟩
          rw [fe_X11_setRoom]; unfold fb_X11_setRoom
          simp (disch := omega) only [cL_y hNw h hi, cR_y hNw h hj, e3, e4, e5, d_at, dc26 h hi, d_fails1, d_fails0, d_10, d_01, d_00, d_11, true_or, or_true, or_self, if_true, if_false, reduceIte, Option.elim_none, Option.elim_some, Option.bind_some, d_up_up]
        · have h0 := dM_726 h 0
          obtain ⟨s4, e4, f4, g4, _, i4, j4⟩ := m_rem hNw h0 (dMH_726 hh 0)
          refine ⟨_, ga_up s4 75 (80 + i) (nI j), ?_, dFm_trans (dFm_726 s 0) (dFm_trans f4 (dFm_q (dFq_up _ _ _))), dM_pS (i := 2) (by omega) (by omega) (by omega) (nI j) i4, dMH_q (dFq_up _ _ _) j4, rfl, by rw [d_up_ne (by decide), g4 6 (by decide), d_up_eq]⟩
          rw [fe_X12_setRoom]; unfold fb_X12_setRoom
          simp (disch := omega) only [mL_y hNw h hi, mR_y hNw h hj, dm_againstRoom hW h0 hi hj, aRoom_le, hr, d_l00, e4, d_a80, d_ix, d_cl, d_n0, d_lef, dm80 i4 hi, d_fails1, d_fails0, d_10, d_01, d_00, d_11, true_or, or_true, or_self, if_true, if_false, reduceIte, Option.elim_none, Option.elim_some, Option.bind_some, d_up_up]
      · refine ⟨P, m, H, .inr 1, hW, hX, fun s h hh => ?_, fun s h hh => ?_⟩
        · have hact := c_moveToRoom hW hi hj
          rw [if_neg hr, decide_eq_false hr] at hact
          obtain ⟨s3, s4, e3, e4, e5, f5, h5, hh5⟩ := c_mkn hNw (act := f_X2_moveToRoom (nI i) (nI j)) hact h hh
          refine ⟨s4, ?_, f5, h5, hh5⟩
          rw [fe_X11_setRoom]; unfold fb_X11_setRoom
          simp only [cL_y hNw h hi, cR_y hNw h hj, e3, e4, e5, d_fails1, d_fails0, d_10, d_01, d_00, d_11, true_or, or_true, or_self, if_true, if_false, reduceIte, Option.elim_none, Option.elim_some, Option.bind_some, d_up_up]
        · have h0 := dM_726 h 0
          refine ⟨0, ga_up s 72 6 2, ?_, dFm_726 s 2, dM_726 h 2, dMH_726 hh 2, by decide, by rw [d_up_eq]; rfl⟩
          rw [fe_X12_setRoom]; unfold fb_X12_setRoom
          simp only [mL_y hNw h hi, mR_y hNw h hj, dm_againstRoom hW h0 hi hj, aRoom_le, hr, d_fails1, d_fails0, d_10, d_01, d_00, d_11, true_or, or_true, or_self, if_true, if_false, reduceIte, Option.elim_none, Option.elim_some, Option.bind_some, d_up_up]
    · refine dCo_no hW hX 3 (by decide) (fun s h => ?_) (fun s h => ?_)
      · rw [fe_X11_setRoom]; unfold fb_X11_setRoom
        simp only [cL_y hNw h hi, cR_n hNw h hn, d_fails1, d_fails0, d_10, d_01, d_00, d_11, true_or, or_true, or_self, if_true, if_false, reduceIte, Option.elim_none, Option.elim_some, Option.bind_some, d_up_up]
      · rw [fe_X12_setRoom]; unfold fb_X12_setRoom
        simp only [mL_y hNw h hi, mR_n hNw h hn, dK_a, dK_31, dK_32, dK_34, d_fails1, d_fails0, d_10, d_01, d_00, d_11, true_or, or_true, or_self, if_true, if_false, reduceIte, Option.elim_none, Option.elim_some, Option.bind_some, d_up_up]
  · refine dCo_no hW hX 3 (by decide) (fun s h => ?_) (fun s h => ?_)
    · rw [fe_X11_setRoom]; unfold fb_X11_setRoom
      simp only [cL_n hNw h hn, d_fails1, d_fails0, d_10, d_01, d_00, d_11, true_or, or_true, or_self, if_true, if_false, reduceIte, Option.elim_none, Option.elim_some, Option.bind_some, d_up_up]
    · rw [fe_X12_setRoom]; unfold fb_X12_setRoom
      simp only [mL_n hNw h hn, dK_a, dK_31, dK_32, dK_34, d_fails1, d_fails0, d_10, d_01, d_00, d_11, true_or, or_true, or_self, if_true, if_false, reduceIte, Option.elim_none, Option.elim_some, Option.bind_some, d_up_up]
end D37
