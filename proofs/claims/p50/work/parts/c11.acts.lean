section E1
/-! ===== the changes as calls, by the abstract state and the plans behind ===== -/
variable {N : Nat → Nat} {Q P : Nat → Nat → Int32} {s : ga_M} {m : Nat} {H : Nat → Nat → Nat → Int32}
def dZ (N : Nat → Nat) (Q P : Nat → Nat → Int32) (m : Nat) (H : Nat → Nat → Nat → Int32) (s : ga_M) : Prop := dC N Q P s ∧ dCH N m H s
/-- only what is no part of the abstract state has changed -/
def zF (s s2 : ga_M) : Prop := ∀ c, c ≤ 30 ∨ c = 42 ∨ c = 44 → s2 c = s c
theorem zF_Z {s2 : ga_M} (h : zF s s2) (hz : dZ N Q P m H s) : dZ N Q P m H s2 := ⟨dC_lt (fun c hc => h c (Or.inl hc)) hz.1, dCH_cong (h 42 (by omega)) (h 44 (by omega)) hz.2⟩
theorem zF_refl (s : ga_M) : zF s s := fun _ _ => rfl
theorem zF_r {s2 : ga_M} (h : rF s s2) : zF s s2 := fun c hc => h c (by omega) (by omega)
theorem zF_g {s2 : ga_M} (h : ∀ a, a ≠ 32 → a ≠ 34 → a ≠ 36 → a ≠ 38 → a ≠ 40 → s2 a = s a) : zF s s2 := fun c hc => h c (by omega) (by omega) (by omega) (by omega) (by omega)
/-- the chain of a lesson, by the abstract state alone -/
theorem gCh_ex (hW : dW N Q P) (h : dC N Q P s) {l : Nat} (hl : l < N 6) : ∃ c, gCh N Q P l c ∧ c.length ≤ 4 := by
  obtain ⟨_, c, _, _, _, _, h5, h6⟩ := dc_find hW h hl
  refine ⟨c, ⟨h5, h6⟩, ?_⟩
  by_cases e : P 1 l = -1
  · rcases h6 e with ⟨rfl, _⟩ | ⟨_, h2, _⟩
    · simp
    · exact h2
  · rw [h5 e]; simp
theorem x_find (hW : dW N Q P) (h : dC N Q P s) {l : Nat} (hl : l < N 6) {c : List Nat} (hc : gCh N Q P l c) : ∃ s2, f_X0_find (nI l) s = some (nI c.length, s2) ∧ (∀ a, a ≠ 32 → a ≠ 34 → a ≠ 36 → a ≠ 38 → a ≠ 40 → s2 a = s a) ∧ s2 32 6 = nI c.length ∧ gM s2 c := by
  obtain ⟨s2, c', k1, k2, k3, k4, k5, k6⟩ := dc_find hW h hl
  have := gCh_uniq hc ⟨k5, k6⟩
  subst this
  exact ⟨s2, k1, k2, k3, k4⟩
theorem x_chain (hW : dW N Q P) (h : dC N Q P s) {l : Nat} (hl : l < N 6) {c : List Nat} (hc : gCh N Q P l c) : ∃ s2, f_X11_chain (nI l) s = some (.inl (nI c.length), s2) ∧ zF s s2 := by
  obtain ⟨s2, e1, e2, _, _⟩ := x_find hW h hl hc
  refine ⟨s2, ?_, zF_g e2⟩
  rw [fe_X11_chain]; unfold fb_X11_chain
  simp only [cL_y hW.1 h hl, e1, d_10, d_01, d_00, d_11, true_or, or_true, or_self, if_true, if_false, reduceIte, Option.elim_none, Option.elim_some, Option.bind_some, d_up_up]
theorem x_chainT (hW : dW N Q P) (h : dC N Q P s) {l : Nat} (hl : l < N 6) {c : List Nat} (hc : gCh N Q P l c) (hc4 : c.length ≤ 4) {j : Nat} (hj : j < c.length) : ∃ s2, f_X11_chainTeacher (nI l) (nI j) s = some (.inl (nI (c.getD j 0)), s2) ∧ zF s s2 := by
  obtain ⟨s2, e1, e2, _, e4⟩ := x_find hW h hl hc
  refine ⟨s2, ?_, zF_g e2⟩
  rw [fe_X11_chainTeacher]; unfold fb_X11_chainTeacher
  simp only [cL_y hW.1 h hl, e1, d_10, d_01, d_00, d_11, true_or, or_true, or_self, if_true, if_false, reduceIte, Option.elim_none, Option.elim_some, Option.bind_some, d_up_up]
  rw [if_neg (nI_pos (by omega)), if_pos (nI_lt hj (by omega)), d_at (show j < 4 by omega) (by omega), e4 j hj]
theorem y_cover (hW : dW N Q P) (hz : dZ N Q P m H s) {i j : Nat} (hi : i < N 6) (hj : j < N 3) (h0 : aCover N Q P i j = 0) : ∃ s1, f_L_cover_0 (nI i) (nI j) s = some (.inl (aLoad N Q (pT P i (nI j) 0) (nI j)), s1) ∧ dZ N Q (pT P i (nI j) 0) (hN m) (hH m H P) s1 := by
  obtain ⟨h, hh⟩ := hz
  have hNw := hW.1
  have hB := dWN_b hNw
  have hact := c_letCover hW hi hj
  rw [if_pos h0, decide_eq_true h0] at hact
  obtain ⟨s3, s4, s5, e3, e4, e5, f5, h5, hh5⟩ := c_mka hNw (act := f_X2_letCover (nI i) (nI j)) hact h hh
  refine ⟨s5, ?_, h5, hh5⟩
  have e : f_X11_cover (nI i) (nI j) s = some (.inl (aLoad N Q (pT P i (nI j) 0) (nI j)), s5) := by
    rw [fe_X11_cover]; unfold fb_X11_cover
    simp (disch := omega) only [cL_y hNw h hi, cT_y hNw h hj, e3, e4, e5, dc_loadOf hNw h5, d_10, d_01, d_00, d_11, true_or, or_true, or_self, if_true, if_false, reduceIte, Option.elim_none, Option.elim_some, Option.bind_some, d_up_up]
  rw [fe_L_cover_0]; unfold fb_L_cover_0
  rw [e]; rfl
theorem n_cover (hW : dW N Q P) (hz : dZ N Q P m H s) {i j : Nat} (hi : i < N 6) (hj : j < N 3) (h0 : ¬ aCover N Q P i j = 0) : ∃ s1, f_L_cover_0 (nI i) (nI j) s = some (.inl (-1000), s1) ∧ dZ N Q P m H s1 := by
  obtain ⟨h, hh⟩ := hz
  have hNw := hW.1
  have hB := dWN_b hNw
  have hact := c_letCover hW hi hj
  rw [if_neg h0, decide_eq_false h0] at hact
  obtain ⟨s3, s4, e3, e4, e5, f5, h5, hh5⟩ := c_mkn hNw (act := f_X2_letCover (nI i) (nI j)) hact h hh
  refine ⟨s4, ?_, h5, hh5⟩
  have e : f_X11_cover (nI i) (nI j) s = some (.inr 1, s4) := by
    rw [fe_X11_cover]; unfold fb_X11_cover
    simp only [cL_y hNw h hi, cT_y hNw h hj, e3, e4, e5, d_10, d_01, d_00, d_11, true_or, or_true, or_self, if_true, if_false, reduceIte, Option.elim_none, Option.elim_some, Option.bind_some, d_up_up]
  rw [fe_L_cover_0]; unfold fb_L_cover_0
  rw [e]; rfl
theorem y_supervise (hW : dW N Q P) (hz : dZ N Q P m H s) {i j : Nat} (hi : i < N 6) (hj : j < N 3) (h0 : aSuper N P i j = 0) : ∃ s1, f_L_supervise_0 (nI i) (nI j) s = some (.inl (aDut N (pT P i (nI j) 1) (nI j)), s1) ∧ dZ N Q (pT P i (nI j) 1) (hN m) (hH m H P) s1 := by
  obtain ⟨h, hh⟩ := hz
  have hNw := hW.1
  have hB := dWN_b hNw
  have hact := c_letSupervise hW hi hj
  rw [if_pos h0, decide_eq_true h0] at hact
  obtain ⟨s3, s4, s5, e3, e4, e5, f5, h5, hh5⟩ := c_mka hNw (act := f_X2_letSupervise (nI i) (nI j)) hact h hh
  refine ⟨s5, ?_, h5, hh5⟩
  have e : f_X11_supervise (nI i) (nI j) s = some (.inl (aDut N (pT P i (nI j) 1) (nI j)), s5) := by
    rw [fe_X11_supervise]; unfold fb_X11_supervise
    simp (disch := omega) only [cL_y hNw h hi, cT_y hNw h hj, e3, e4, e5, dc_dutiesOf hNw h5, d_10, d_01, d_00, d_11, true_or, or_true, or_self, if_true, if_false, reduceIte, Option.elim_none, Option.elim_some, Option.bind_some, d_up_up]
  rw [fe_L_supervise_0]; unfold fb_L_supervise_0
  rw [e]; rfl
theorem n_supervise (hW : dW N Q P) (hz : dZ N Q P m H s) {i j : Nat} (hi : i < N 6) (hj : j < N 3) (h0 : ¬ aSuper N P i j = 0) : ∃ s1, f_L_supervise_0 (nI i) (nI j) s = some (.inl (-1000), s1) ∧ dZ N Q P m H s1 := by
  obtain ⟨h, hh⟩ := hz
  have hNw := hW.1
  have hB := dWN_b hNw
  have hact := c_letSupervise hW hi hj
  rw [if_neg h0, decide_eq_false h0] at hact
  obtain ⟨s3, s4, e3, e4, e5, f5, h5, hh5⟩ := c_mkn hNw (act := f_X2_letSupervise (nI i) (nI j)) hact h hh
  refine ⟨s4, ?_, h5, hh5⟩
  have e : f_X11_supervise (nI i) (nI j) s = some (.inr 1, s4) := by
    rw [fe_X11_supervise]; unfold fb_X11_supervise
    simp only [cL_y hNw h hi, cT_y hNw h hj, e3, e4, e5, d_10, d_01, d_00, d_11, true_or, or_true, or_self, if_true, if_false, reduceIte, Option.elim_none, Option.elim_some, Option.bind_some, d_up_up]
  rw [fe_L_supervise_0]; unfold fb_L_supervise_0
  rw [e]; rfl
theorem y_exchange (hW : dW N Q P) (hz : dZ N Q P m H s) {i j : Nat} (hi : i < N 6) (hj : j < N 6) (h0 : aExch N Q P i j = 0) : ∃ s1, f_L_exchange_0 (nI i) (nI j) s = some (.inl (pW P i j 0 i), s1) ∧ dZ N Q (pW P i j) (hN m) (hH m H P) s1 := by
  obtain ⟨h, hh⟩ := hz
  have hNw := hW.1
  have hB := dWN_b hNw
  have hact := c_swapSlots hW hi hj
  rw [if_pos h0, decide_eq_true h0] at hact
  obtain ⟨s3, s4, s5, e3, e4, e5, f5, h5, hh5⟩ := c_mka hNw (act := f_X2_swapSlots (nI i) (nI j)) hact h hh
  refine ⟨s5, ?_, h5, hh5⟩
  have e : f_X11_exchange (nI i) (nI j) s = some (.inl (pW P i j 0 i), s5) := by
    rw [fe_X11_exchange]; unfold fb_X11_exchange
    simp (disch := omega) only [cL_y hNw h hi, cL_y hNw h hj, e3, e4, e5, d_at, dc22 h5 hi, d_10, d_01, d_00, d_11, true_or, or_true, or_self, if_true, if_false, reduceIte, Option.elim_none, Option.elim_some, Option.bind_some, d_up_up]
  rw [fe_L_exchange_0]; unfold fb_L_exchange_0
  rw [e]; rfl
theorem n_exchange (hW : dW N Q P) (hz : dZ N Q P m H s) {i j : Nat} (hi : i < N 6) (hj : j < N 6) (h0 : ¬ aExch N Q P i j = 0) : ∃ s1, f_L_exchange_0 (nI i) (nI j) s = some (.inl (-1000), s1) ∧ dZ N Q P m H s1 := by
  obtain ⟨h, hh⟩ := hz
  have hNw := hW.1
  have hB := dWN_b hNw
  have hact := c_swapSlots hW hi hj
  rw [if_neg h0, decide_eq_false h0] at hact
  obtain ⟨s3, s4, e3, e4, e5, f5, h5, hh5⟩ := c_mkn hNw (act := f_X2_swapSlots (nI i) (nI j)) hact h hh
  refine ⟨s4, ?_, h5, hh5⟩
  have e : f_X11_exchange (nI i) (nI j) s = some (.inr 1, s4) := by
    rw [fe_X11_exchange]; unfold fb_X11_exchange
    simp only [cL_y hNw h hi, cL_y hNw h hj, e3, e4, e5, d_10, d_01, d_00, d_11, true_or, or_true, or_self, if_true, if_false, reduceIte, Option.elim_none, Option.elim_some, Option.bind_some, d_up_up]
  rw [fe_L_exchange_0]; unfold fb_L_exchange_0
  rw [e]; rfl
theorem y_move (hW : dW N Q P) (hz : dZ N Q P m H s) {i j : Nat} (hi : i < N 6) (hj : j < dSl N) (h0 : aMove N Q P i (nI j) = 0) : ∃ s1, f_L_move_0 (nI i) (nI j) s = some (.inl (P 0 i), s1) ∧ dZ N Q (pS P 0 i (nI j)) (hN m) (hH m H P) s1 := by
  obtain ⟨h, hh⟩ := hz
  have hNw := hW.1
  have hB := dWN_b hNw
  have hact := c_moveToSlot hW hi hj
  rw [if_pos h0, decide_eq_true h0] at hact
  obtain ⟨s3, s4, s5, e3, e4, e5, f5, h5, hh5⟩ := c_mka hNw (act := f_X2_moveToSlot (nI i) (nI j)) hact h hh
  refine ⟨s5, ?_, h5, hh5⟩
  have e : f_X11_move (nI i) (nI j) s = some (.inl (P 0 i), s5) := by
    rw [fe_X11_move]; unfold fb_X11_move
    simp (disch := omega) only [cL_y hNw h hi, cS_y hNw h hj, e3, e4, e5, d_at, dc22 h hi, d_10, d_01, d_00, d_11, true_or, or_true, or_self, if_true, if_false, reduceIte, Option.elim_none, Option.elim_some, Option.bind_some, d_up_up]
  rw [fe_L_move_0]; unfold fb_L_move_0
  rw [e]; rfl
theorem n_move (hW : dW N Q P) (hz : dZ N Q P m H s) {i j : Nat} (hi : i < N 6) (hj : j < dSl N) (h0 : ¬ aMove N Q P i (nI j) = 0) : ∃ s1, f_L_move_0 (nI i) (nI j) s = some (.inl (-1000), s1) ∧ dZ N Q P m H s1 := by
  obtain ⟨h, hh⟩ := hz
  have hNw := hW.1
  have hB := dWN_b hNw
  have hact := c_moveToSlot hW hi hj
  rw [if_neg h0, decide_eq_false h0] at hact
  obtain ⟨s3, s4, e3, e4, e5, f5, h5, hh5⟩ := c_mkn hNw (act := f_X2_moveToSlot (nI i) (nI j)) hact h hh
  refine ⟨s4, ?_, h5, hh5⟩
  have e : f_X11_move (nI i) (nI j) s = some (.inr 1, s4) := by
    rw [fe_X11_move]; unfold fb_X11_move
    simp only [cL_y hNw h hi, cS_y hNw h hj, e3, e4, e5, d_10, d_01, d_00, d_11, true_or, or_true, or_self, if_true, if_false, reduceIte, Option.elim_none, Option.elim_some, Option.bind_some, d_up_up]
  rw [fe_L_move_0]; unfold fb_L_move_0
  rw [e]; rfl
theorem y_setRoom (hW : dW N Q P) (hz : dZ N Q P m H s) {i j : Nat} (hi : i < N 6) (hj : j < N 4) (h0 : aRoom N Q P i j = 0) : ∃ s1, f_L_setRoom_0 (nI i) (nI j) s = some (.inl (P 2 i), s1) ∧ dZ N Q (pS P 2 i (nI j)) (hN m) (hH m H P) s1 := by
  obtain ⟨h, hh⟩ := hz
  have hNw := hW.1
  have hB := dWN_b hNw
  have hact := c_moveToRoom hW hi hj
  rw [if_pos h0, decide_eq_true h0] at hact
  obtain ⟨s3, s4, s5, e3, e4, e5, f5, h5, hh5⟩ := c_mka hNw (act := f_X2_moveToRoom (nI i) (nI j)) hact h hh
  refine ⟨s5, ?_, h5, hh5⟩
  have e : f_X11_setRoom (nI i) (nI j) s = some (.inl (P 2 i), s5) := by
    rw [fe_X11_setRoom]; unfold fb_X11_setRoom
    simp (disch := omega) only [cL_y hNw h hi, cR_y hNw h hj, e3, e4, e5, d_at, dc26 h hi, d_10, d_01, d_00, d_11, true_or, or_true, or_self, if_true, if_false, reduceIte, Option.elim_none, Option.elim_some, Option.bind_some, d_up_up]
  rw [fe_L_setRoom_0]; unfold fb_L_setRoom_0
  rw [e]; rfl
theorem n_setRoom (hW : dW N Q P) (hz : dZ N Q P m H s) {i j : Nat} (hi : i < N 6) (hj : j < N 4) (h0 : ¬ aRoom N Q P i j = 0) : ∃ s1, f_L_setRoom_0 (nI i) (nI j) s = some (.inl (-1000), s1) ∧ dZ N Q P m H s1 := by
  obtain ⟨h, hh⟩ := hz
  have hNw := hW.1
  have hB := dWN_b hNw
  have hact := c_moveToRoom hW hi hj
  rw [if_neg h0, decide_eq_false h0] at hact
  obtain ⟨s3, s4, e3, e4, e5, f5, h5, hh5⟩ := c_mkn hNw (act := f_X2_moveToRoom (nI i) (nI j)) hact h hh
  refine ⟨s4, ?_, h5, hh5⟩
  have e : f_X11_setRoom (nI i) (nI j) s = some (.inr 1, s4) := by
    rw [fe_X11_setRoom]; unfold fb_X11_setRoom
    simp only [cL_y hNw h hi, cR_y hNw h hj, e3, e4, e5, d_10, d_01, d_00, d_11, true_or, or_true, or_self, if_true, if_false, reduceIte, Option.elim_none, Option.elim_some, Option.bind_some, d_up_up]
  rw [fe_L_setRoom_0]; unfold fb_L_setRoom_0
  rw [e]; rfl
theorem y_reopen (hW : dW N Q P) (hz : dZ N Q P m H s) {i : Nat} (hi : i < N 6) (h0 : P 1 i ≠ -1) : ∃ s1, f_L_reopen_0 (nI i) s = some (.inl (P 1 i), s1) ∧ dZ N Q (pT P i (-1) 0) (hN m) (hH m H P) s1 := by
  obtain ⟨h, hh⟩ := hz
  have hNw := hW.1
  have hB := dWN_b hNw
  have hact := c_openAgain hW hi
  rw [if_neg h0, decide_eq_false h0] at hact
  obtain ⟨s3, s4, s5, e3, e4, e5, f5, h5, hh5⟩ := c_mka hNw (act := fun s => some (v_X2_openAgain (nI i) s)) hact h hh
  have e4' : v_X2_openAgain (nI i) s3 = (1, s4) := Option.some.inj e4
  refine ⟨s5, ?_, h5, hh5⟩
  have e : f_X11_reopen (nI i) s = some (.inl (P 1 i), s5) := by
    rw [fe_X11_reopen]; unfold fb_X11_reopen
    simp (disch := omega) only [cL_y hNw h hi, e3, e4', e5, d_at, dc24 h hi, d_10, d_01, d_00, d_11, true_or, or_true, or_self, if_true, if_false, reduceIte, Option.elim_none, Option.elim_some, Option.bind_some, d_up_up]
  rw [fe_L_reopen_0]; unfold fb_L_reopen_0
  rw [e]; rfl
theorem n_reopen (hW : dW N Q P) (hz : dZ N Q P m H s) {i : Nat} (hi : i < N 6) (h0 : P 1 i = -1) : ∃ s1, f_L_reopen_0 (nI i) s = some (.inl (-1000), s1) ∧ dZ N Q P m H s1 := by
  obtain ⟨h, hh⟩ := hz
  have hNw := hW.1
  have hact := c_openAgain hW hi
  rw [if_pos h0, decide_eq_true h0] at hact
  obtain ⟨s3, s4, e3, e4, e5, f5, h5, hh5⟩ := c_mkn hNw (act := fun s => some (v_X2_openAgain (nI i) s)) hact h hh
  have e4' : v_X2_openAgain (nI i) s3 = (0, s4) := Option.some.inj e4
  refine ⟨s4, ?_, h5, hh5⟩
  have e : f_X11_reopen (nI i) s = some (.inr 1, s4) := by
    rw [fe_X11_reopen]; unfold fb_X11_reopen
    simp only [cL_y hNw h hi, e3, e4', e5, d_10, d_01, d_00, d_11, true_or, or_true, or_self, if_true, if_false, reduceIte, Option.elim_none, Option.elim_some, Option.bind_some, d_up_up]
  rw [fe_L_reopen_0]; unfold fb_L_reopen_0
  rw [e]; rfl
theorem y_absent (hW : dW N Q P) (hz : dZ N Q P m H s) {i j : Nat} (hi : i < N 3) (hj : j < N 0) (c : Int32) : ∃ s1, f_X11_setAbsent (nI i) (nI j) c s = some (.inl (aAbs N P i j (decide (c ≠ 0))), s1) ∧ dZ N Q (pA N P i j (decide (c ≠ 0))) (hN m) (hH m H P) s1 := by
  obtain ⟨h, hh⟩ := hz
  have hNw := hW.1
  obtain ⟨s3, s4, s5, e3, e4, e5, f5, h5, hh5⟩ := c_mkk hNw (act := f_X2_letBeAbsent (nI i) (nI j) c) (c_letBeAbsent hW hi hj (decide (c ≠ 0)) rfl) h hh
  refine ⟨s5, ?_, h5, hh5⟩
  rw [fe_X11_setAbsent]; unfold fb_X11_setAbsent
  simp only [cT_y hNw h hi, cD_y hNw h hj, e3, e4, e5, d_10, d_01, d_00, d_11, true_or, or_true, or_self, if_true, if_false, reduceIte, Option.elim_none, Option.elim_some, Option.bind_some, d_up_up]
theorem y_reset (hW : dW N Q P) (hz : dZ N Q P m H s) : ∃ s1, f_X11_reset s = some (aDiffs N Q P, s1) ∧ dZ N Q (pF N Q P (N 6)) (hN m) (hH m H P) s1 := by
  obtain ⟨h, hh⟩ := hz
  have hNw := hW.1
  have hact : dAc N Q P (pF N Q P (N 6)) (fun s => (f_X3_returnToFirst s).map fun t => (0, t)) 0 := fun s h => by
    obtain ⟨s1, e1, f1, g1⟩ := c_return hNw hW.2.1 h
    exact ⟨s1, by show Option.map _ (f_X3_returnToFirst s) = _; rw [e1]; rfl, f1, g1⟩
  obtain ⟨s3, s4, s5, e3, e4, e5, f5, h5, hh5⟩ := c_mkk hNw hact h hh
  have e4' : f_X3_returnToFirst s3 = some s4 := by
    cases e : f_X3_returnToFirst s3 with
    | none => rw [e] at e4; cases e4
    | some t =>
      rw [e] at e4
      have := Option.some.inj e4
      rw [(Prod.mk.inj this).2]
  refine ⟨s5, ?_, h5, hh5⟩
  rw [fe_X11_reset]; unfold fb_X11_reset
  simp only [dc_differing hNw h, e3, e4', e5, d_10, d_01, d_00, d_11, true_or, or_true, or_self, if_true, if_false, reduceIte, Option.elim_none, Option.elim_some, Option.bind_some, d_up_up]
theorem y_undo (hW : dW N Q P) (hz : dZ N Q P m H s) (hm0 : m ≠ 0) (hm10 : m ≤ 10) : ∃ s1, f_X11_undo s = some (.inl (nI (m - 1)), s1) ∧ dZ N Q (H (m - 1)) (m - 1) H s1 := by
  obtain ⟨h, hh⟩ := hz
  have hNw := hW.1
  have hB := dWN_b hNw
  obtain ⟨o, hr⟩ := hh
  have hd : nI m - 1 = nI (m - 1) := pk_sub (a := m) (b := 1) (by omega)
  have hmk : dCHm N (m - 1) H (H (m - 1)) (ga_up s 42 3 (nI (m - 1))) :=
    ⟨o, ⟨by omega, hr.2.1, by rw [d_up_nk (by omega)]; exact hr.2.2.1, by rw [d_up_eq], fun p hp => dPl_cong (d_up_ne (by decide)) (hr.2.2.2.2 p (by omega))⟩, dPl_cong (d_up_ne (by decide)) (hr.2.2.2.2 (m - 1) (by omega))⟩
  obtain ⟨s2, e2, f2, g2⟩ := dc_restore (show N 6 ≤ 40 by omega) hmk
  refine ⟨s2, ?_, dC_plan h (fun c hc => by rw [f2 c (by omega) (by omega) (by omega) (by omega) (by omega), d_up_ne (by omega)]) g2, dCH_cong (f2 42 (by omega) (by omega) (by omega) (by omega) (by omega)) (f2 44 (by omega) (by omega) (by omega) (by omega) (by omega)) (dCHm_CH hmk)⟩
  rw [fe_X11_undo]; unfold fb_X11_undo
  rw [hr.2.2.2.1, if_pos (show (0 : Int32) < nI m from nI_lt (a := 0) (by omega) (by omega)), fe_X1_restoreLatest]
  unfold fb_X1_restoreLatest
  dsimp only
  rw [hr.2.2.2.1, hd, e2, Option.bind_some, Option.bind_some, f2 42 (by omega) (by omega) (by omega) (by omega) (by omega), d_up_eq]
theorem x_depth (hz : dZ N Q P m H s) : v_X11_undoDepth s = nI m := by
  obtain ⟨h, o, hr⟩ := hz
  rw [ve_X11_undoDepth]; unfold vb_X11_undoDepth
  exact hr.2.2.2.1
end E1
