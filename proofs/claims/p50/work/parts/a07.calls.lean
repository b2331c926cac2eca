section D37
/-! ===== the changes as calls ===== -/
variable {N : Nat → Nat} {Q P : Nat → Nat → Int32} {s : ga_M} {m : Nat} {H : Nat → Nat → Nat → Int32}
theorem d_l00 : ((0 : Int32) ≤ 0) = True := eq_true (by decide)
def dCo (N : Nat → Nat) (Q P : Nat → Nat → Int32) (m : Nat) (H : Nat → Nat → Nat → Int32) (fc : ga_M → Option ((Int32 ⊕ Nat) × ga_M)) (fm : ga_M → Option (Int32 × ga_M)) (cd : Nat → Int32) : Prop :=
  ∃ (P2 : Nat → Nat → Int32) (m2 : Nat) (H2 : Nat → Nat → Nat → Int32) (r : Int32 ⊕ Nat), dW N Q P2 ∧ dWH N m2 H2 ∧
    (∀ s, dC N Q P s → dCH N m H s → ∃ s1, fc s = some (r, s1) ∧ dFc s s1 ∧ dC N Q P2 s1 ∧ dCH N m2 H2 s1) ∧
    ∀ s, dM N Q P s → dMH N m H s → ∃ b s2, fm s = some (b, s2) ∧ dFm s s2 ∧ dM N Q P2 s2 ∧ dMH N m2 H2 s2 ∧ Sum.elim (fun v => b = v ∧ s2 72 6 = 0) (fun e => cd e ≠ 0 ∧ s2 72 6 = cd e) r
theorem dMH_726 (h : dMH N m H s) (x : Int32) : dMH N m H (ga_up s 72 6 x) := dMH_cong (d_up_nk (by decide)) (d_up_ne (by decide)) h
theorem dCo_no {fc : ga_M → Option ((Int32 ⊕ Nat) × ga_M)} {fm : ga_M → Option (Int32 × ga_M)} {cd : Nat → Int32} (hW : dW N Q P) (hX : dWH N m H) (e : Nat) (hcd : cd e ≠ 0) (hc : ∀ s, dC N Q P s → fc s = some (.inr e, s)) (hm : ∀ s, dM N Q P s → fm s = some (0, ga_up s 72 6 (cd e))) : dCo N Q P m H fc fm cd :=
  ⟨P, m, H, .inr e, hW, hX, fun s h hh => ⟨s, hc s h, dFc_refl s, h, hh⟩, fun s h hh => ⟨0, _, hm s h, dFm_726 s _, dM_726 h _, dMH_726 hh _, hcd, by rw [d_up_eq]⟩⟩
theorem dFc_p {s s1 : ga_M} (h : dFp s s1) : dFc s s1 := fun c hc => h c (by omega)
theorem dWH_push (hX : dWH N m H) (hm : m ≤ 10) (hP : dWP N P) : dWH N (hN m) (hH m H P) := by
  intro p hp
  unfold hN at hp
  unfold hH
  by_cases c : m < 10
  · rw [if_pos c] at hp ⊢
    by_cases e : p = m
    · rw [if_pos e]; exact hP
    · rw [if_neg e]; exact hX p (by omega)
  · rw [if_neg c] at hp ⊢
    by_cases e : p = 9
    · rw [if_pos e]; exact hP
    · rw [if_neg e]; exact hX (p + 1) (by omega)
/-- mark, act, keep unless it is refused -/
theorem c_mka {P2 : Nat → Nat → Int32} {act : ga_M → Option (Int32 × ga_M)} (hNw : dWN N) (hact : dAc N Q P P2 act 1) (h : dC N Q P s) (hh : dCH N m H s) :
    ∃ s3 s4 s5, f_X1_mark s = some s3 ∧ act s3 = some (1, s4) ∧ f_X11_keepUnlessRefused 1 s4 = some (none, s5) ∧ dFc s s5 ∧ dC N Q P2 s5 ∧ dCH N (hN m) (hH m H P) s5 := by
  have hB := dWN_b hNw
  obtain ⟨s3, e3, f3, g3⟩ := dc_mark (by omega) h hh
  have h3 : dC N Q P s3 := dC_lt (fun c hc => f3 c (by omega)) h
  obtain ⟨s4, e4, f4, g4⟩ := hact s3 h3
  obtain ⟨s5, e5, f5, g5⟩ := dc_keep (dCHm_cong (f4 42 (by omega)) (f4 44 (by omega)) g3)
  refine ⟨s3, s4, s5, e3, e4, ?_, fun c hc => by rw [f5 c (by omega), f4 c (by omega), f3 c (by omega)], dC_lt (fun c hc => f5 c (by omega)) g4, g5⟩
  rw [fe_X11_keepUnlessRefused]; unfold fb_X11_keepUnlessRefused
  rw [if_neg (by decide), e5, Option.bind_some]
theorem c_mkn {act : ga_M → Option (Int32 × ga_M)} (hNw : dWN N) (hact : dAc N Q P P act 0) (h : dC N Q P s) (hh : dCH N m H s) :
    ∃ s3 s4, f_X1_mark s = some s3 ∧ act s3 = some (0, s4) ∧ f_X11_keepUnlessRefused 0 s4 = some (some 1, s4) ∧ dFc s s4 ∧ dC N Q P s4 ∧ dCH N m H s4 := by
  have hB := dWN_b hNw
  obtain ⟨s3, e3, f3, g3⟩ := dc_mark (by omega) h hh
  have h3 : dC N Q P s3 := dC_lt (fun c hc => f3 c (by omega)) h
  obtain ⟨s4, e4, f4, g4⟩ := hact s3 h3
  refine ⟨s3, s4, e3, e4, ?_, fun c hc => by rw [f4 c (by omega), f3 c (by omega)], g4, dCH_cong (f4 42 (by omega)) (f4 44 (by omega)) (dCHm_CH g3)⟩
  rw [fe_X11_keepUnlessRefused]; unfold fb_X11_keepUnlessRefused
  rw [if_pos rfl]
/-- mark, act, keep -/
theorem c_mkk {P2 : Nat → Nat → Int32} {act : ga_M → Option (Int32 × ga_M)} {v : Int32} (hNw : dWN N) (hact : dAc N Q P P2 act v) (h : dC N Q P s) (hh : dCH N m H s) :
    ∃ s3 s4 s5, f_X1_mark s = some s3 ∧ act s3 = some (v, s4) ∧ f_X1_keepMarked s4 = some s5 ∧ dFc s s5 ∧ dC N Q P2 s5 ∧ dCH N (hN m) (hH m H P) s5 := by
  have hB := dWN_b hNw
  obtain ⟨s3, e3, f3, g3⟩ := dc_mark (by omega) h hh
  have h3 : dC N Q P s3 := dC_lt (fun c hc => f3 c (by omega)) h
  obtain ⟨s4, e4, f4, g4⟩ := hact s3 h3
  obtain ⟨s5, e5, f5, g5⟩ := dc_keep (dCHm_cong (f4 42 (by omega)) (f4 44 (by omega)) g3)
  exact ⟨s3, s4, s5, e3, e4, e5, fun c hc => by rw [f5 c (by omega), f4 c (by omega), f3 c (by omega)], dC_lt (fun c hc => f5 c (by omega)) g4, g5⟩
theorem dFm_q {s s1 : ga_M} (h : dFq s s1) : dFm s s1 :=
  ⟨fun c hc => h.1 c (by omega) (by omega) (by omega) (by omega), h.1 80 (by omega) (by omega) (by omega) (by omega), h.1 81 (by omega) (by omega) (by omega) (by omega), h.1 82 (by omega) (by omega) (by omega) (by omega), h.2 12 (by omega) (by omega), h.2 16 (by omega) (by omega), h.2 17 (by omega) (by omega), h.2 19 (by omega) (by omega)⟩
theorem dMH_q {s s1 : ga_M} (h : dFq s s1) (hh : dMH N m H s) : dMH N m H s1 := dMH_cong (h.2 5 (by omega) (by omega)) (h.1 77 (by omega) (by omega) (by omega) (by omega)) hh
theorem aCover_le {l t : Nat} : (aCover N Q P l t ≤ 0) = (aCover N Q P l t = 0) := by
  unfold aCover
  repeat' split
  all_goals decide
theorem aSuper_le {l t : Nat} : (aSuper N P l t ≤ 0) = (aSuper N P l t = 0) := by
  unfold aSuper
  repeat' split
  all_goals decide
theorem aMove_le {l : Nat} {x : Int32} : (aMove N Q P l x ≤ 0) = (aMove N Q P l x = 0) := by
  unfold aMove
  repeat' split
  all_goals decide
theorem aRoom_le {l r : Nat} : (aRoom N Q P l r ≤ 0) = (aRoom N Q P l r = 0) := by
  unfold aRoom
  repeat' split
  all_goals decide
theorem aCover_0 (hN : dWN N) {l t : Nat} (h : aCover N Q P l t = 0) : ∀ k, k < N 6 → k ≠ l → P 0 k = P 0 l → P 1 k ≠ nI t := by
  unfold aCover at h
  split at h
  · exact absurd h (by decide)
  split at h
  · exact absurd h (by decide)
  split at h
  · exact absurd h (by decide)
  split at h
  · exact absurd h (by decide)
  rename_i h4
  intro k hk _ e
  exact aAt_none hN (by simpa using h4) k hk e
theorem aSuper_0 (hN : dWN N) {l t : Nat} (h : aSuper N P l t = 0) : ∀ k, k < N 6 → k ≠ l → P 0 k = P 0 l → P 1 k ≠ nI t := by
  unfold aSuper at h
  split at h
  · exact absurd h (by decide)
  split at h
  · exact absurd h (by decide)
  split at h
  · exact absurd h (by decide)
  rename_i h4
  intro k hk _ e
  exact aAt_none hN (by simpa using h4) k hk e
theorem aMove_0 (hN : dWN N) {l x : Nat} (h : aMove N Q P l (nI x) = 0) : (P 1 l ≠ -1 → ∀ k, k < N 6 → k ≠ l → P 0 k = nI x → P 1 k ≠ P 1 l) ∧ ∀ k, k < N 6 → k ≠ l → P 0 k = nI x → P 2 k ≠ P 2 l := by
  unfold aMove at h
  split at h
  · exact absurd h (by decide)
  split at h
  · exact absurd h (by decide)
  split at h
  · exact absurd h (by decide)
  split at h
  · exact absurd h (by decide)
  rename_i h5
  split at h
  · exact absurd h (by decide)
  rename_i h6
  refine ⟨fun hn k hk _ e => ?_, fun k hk _ e => aAt_none hN (by simpa using h6) k hk e⟩
  have : aAt N P 1 (nI x) (P 1 l) = -1 := by
    by_cases c : aAt N P 1 (nI x) (P 1 l) = -1
    · exact c
    · exact absurd ⟨hn, c⟩ h5
  exact aAt_none hN this k hk e
theorem aRoom_0 (hN : dWN N) {l r : Nat} (h : aRoom N Q P l r = 0) : ∀ k, k < N 6 → k ≠ l → P 0 k = P 0 l → P 2 k ≠ nI r := by
  unfold aRoom at h
  split at h
  · exact absurd h (by decide)
  split at h
  · exact absurd h (by decide)
  split at h
  · exact absurd h (by decide)
  rename_i h4
  intro k hk _ e
  exact aAt_none hN (by simpa using h4) k hk e
end D37
