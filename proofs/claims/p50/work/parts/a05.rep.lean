section D35
variable {N : Nat → Nat} {Q P : Nat → Nat → Int32} {s : ga_M}
/-! exchanging keeps a plan a plan -/
theorem aThird_no (hN : dWN N) {i l o : Nat} (hu : ∀ j k, j < N 6 → k < N 6 → P 0 j = P 0 k → P i j = P i l → P i k = P i l → j = k) (h0 : P 0 l ≠ P 0 o) (hl : l < N 6) (ho : o < N 6) (h : aThird N P i l o = false) :
    ∀ k, k < N 6 → k ≠ o → P 0 k = P 0 o → P i k ≠ P i l := by
  have hB := dWN_b hN
  have e := aThird_with hN hu h0 hl ho
  rw [h, Bool.not_false, decide_eq_true_eq] at e
  unfold aWith at e
  rw [dFind_none (by omega)] at e
  intro k hk hko e0 e1
  have := e k hk
  have hkl : k ≠ l := fun q => h0 (by rw [← q]; exact e0)
  have n1 : ¬ nI k = nI l := fun q => hkl ((nI_eq (by omega) (by omega)).mp q)
  have n2 : ¬ nI k = nI o := fun q => hko ((nI_eq (by omega) (by omega)).mp q)
  simp [e0, e1, n1, n2] at this
theorem aExch_0 {l o : Nat} (h : aExch N Q P l o = 0) : P 0 l ≠ P 0 o ∧ P 1 l ≠ -1 ∧ P 1 o ≠ -1 ∧ aThird N P 1 l o = false ∧ aThird N P 1 o l = false ∧ aThird N P 2 l o = false ∧ aThird N P 2 o l = false := by
  unfold aExch at h
  split at h
  · exact absurd h (by decide)
  split at h
  · exact absurd h (by decide)
  rename_i h0
  split at h
  · exact absurd h (by decide)
  rename_i h1
  split at h
  · exact absurd h (by decide)
  split at h
  · exact absurd h (by decide)
  rename_i h2
  split at h
  · exact absurd h (by decide)
  rename_i h3
  refine ⟨h0, fun e => h1 (Or.inl e), fun e => h1 (Or.inr e), ?_, ?_, ?_, ?_⟩
  · cases e : aThird N P 1 l o
    · rfl
    · exact absurd (Or.inl e) h2
  · cases e : aThird N P 1 o l
    · rfl
    · exact absurd (Or.inr e) h2
  · cases e : aThird N P 2 l o
    · rfl
    · exact absurd (Or.inl e) h3
  · cases e : aThird N P 2 o l
    · rfl
    · exact absurd (Or.inr e) h3
theorem dWP_swap (hN : dWN N) (h : dWP N P) {l o : Nat} (hl : l < N 6) (ho : o < N 6) (hx : aExch N Q P l o = 0) : dWP N (pW P l o) := by
  obtain ⟨n0, n1, n2, t1, t2, r1, r2⟩ := aExch_0 hx
  have T1 := aThird_no (i := 1) hN (fun j k hj hk e0 e1 e2 => dWP_t h hj hk e0 (by rw [e1]; exact n1) (by rw [e1, e2])) n0 hl ho t1
  have T2 := aThird_no (i := 1) hN (fun j k hj hk e0 e1 e2 => dWP_t h hj hk e0 (by rw [e1]; exact n2) (by rw [e1, e2])) (fun e => n0 e.symm) ho hl t2
  have R1 := aThird_no (i := 2) hN (fun j k hj hk e0 e1 e2 => dWP_r h hj hk e0 (by rw [e1, e2])) n0 hl ho r1
  have R2 := aThird_no (i := 2) hN (fun j k hj hk e0 e1 e2 => dWP_r h hj hk e0 (by rw [e1, e2])) (fun e => n0 e.symm) ho hl r2
  have hlo : l ≠ o := fun e => n0 (by rw [e])
  obtain ⟨h0, h1, h2, h3, h4, h5⟩ := h
  have e0 : ∀ k, pW P l o 0 k = if k = o then P 0 l else if k = l then P 0 o else P 0 k := fun k => by unfold pW pS; simp
  have e1 : ∀ a k, a ≠ 0 → pW P l o a k = P a k := fun a k ha => by unfold pW; rw [pS_ne (by omega), pS_ne (by omega)]
  -- one statement for teachers and rooms
  have key : ∀ i, (∀ k, k < N 6 → k ≠ o → P 0 k = P 0 o → P i k ≠ P i l) → (∀ k, k < N 6 → k ≠ l → P 0 k = P 0 l → P i k ≠ P i o) → ∀ j k, j < N 6 → k < N 6 → j ≠ k → pW P l o 0 j = pW P l o 0 k → (P 0 j = P 0 k → P i j ≠ P i k) → P i j ≠ P i k := by
    intro i A B j k hj hk hjk e hor
    rw [e0, e0] at e
    by_cases c1 : j = o
    · subst c1
      rw [if_pos rfl] at e
      by_cases c2 : k = l
      · subst c2; rw [if_neg (fun q => hjk q.symm), if_pos rfl] at e; exact absurd e n0
      · rw [if_neg (fun q => hjk q.symm), if_neg c2] at e
        exact fun q => B k hk c2 e.symm q.symm
    · rw [if_neg c1] at e
      by_cases c3 : j = l
      · subst c3
        rw [if_pos rfl] at e
        by_cases c2 : k = o
        · subst c2; rw [if_pos rfl] at e; exact absurd e.symm n0
        · rw [if_neg c2, if_neg (fun q => hjk q.symm)] at e
          exact fun q => A k hk c2 e.symm q.symm
      · rw [if_neg c3] at e
        by_cases c2 : k = o
        · subst c2; rw [if_pos rfl] at e; exact B j hj c3 e
        · rw [if_neg c2] at e
          by_cases c4 : k = l
          · subst c4; rw [if_pos rfl] at e; exact A j hj c1 e
          · rw [if_neg c4] at e; exact hor e
  refine ⟨fun k hk => ?_, fun k hk => by rw [e1 1 _ (by omega)]; exact h1 k hk, fun k hk => by rw [e1 2 _ (by omega)]; exact h2 k hk, fun k hk => by rw [e1 3 _ (by omega), e1 1 _ (by omega)]; exact h3 k hk, fun i k hi hk hik e hn => ?_, fun i k hi hk hik e => ?_⟩
  · rw [e0]
    split
    · exact h0 l hl
    · split
      · exact h0 o ho
      · exact h0 k hk
  · rw [e1 1 _ (by omega)] at hn
    rw [e1 1 _ (by omega), e1 1 _ (by omega)]
    exact key 1 T1 T2 i k hi hk hik e (fun q => h4 i k hi hk hik q hn)
  · rw [e1 2 _ (by omega), e1 2 _ (by omega)]
    exact key 2 R1 R2 i k hi hk hik e (fun q => h5 i k hi hk hik q)
/-! back to the first timetable -/
def aFT (N : Nat → Nat) (Q P : Nat → Nat → Int32) (k : Nat) : Int32 := if aAway N P (Q 8 k).toNatClampNeg (Q 7 k) = true then -1 else Q 8 k
def pF (N : Nat → Nat) (Q P : Nat → Nat → Int32) (m : Nat) : Nat → Nat → Int32 := fun a j => if j < m then (if a = 0 then Q 7 j else if a = 1 then aFT N Q P j else if a = 2 then Q 9 j else if a = 3 then 0 else P a j) else P a j
theorem pF_0 : pF N Q P 0 = P := by funext a j; unfold pF; rw [if_neg (by omega)]
theorem pF_4 (m j : Nat) : pF N Q P m 4 j = P 4 j := by unfold pF; simp
theorem pF_succ (k : Nat) : pS (pS (pS (pS (pF N Q P k) 0 k (Q 7 k)) 2 k (Q 9 k)) 1 k (aFT N Q P k)) 3 k 0 = pF N Q P (k + 1) := by
  funext a j
  unfold pS pF
  by_cases e : j = k
  · subst e
    by_cases a0 : a = 0
    · subst a0; simp
    · by_cases a1 : a = 1
      · subst a1; simp
      · by_cases a2 : a = 2
        · subst a2; simp
        · by_cases a3 : a = 3
          · subst a3; simp
          · simp [a0, a1, a2, a3]
  · have h : (j < k + 1) = (j < k) := propext ⟨fun h => by omega, fun h => by omega⟩
    simp only [e, and_false, if_false, h]
theorem pF_succ2 (k : Nat) : pS (pS (pS (pS (pF N Q P k) 0 k (Q 7 k)) 1 k (Q 8 k)) 2 k (Q 9 k)) 3 k 0 = if aAway N P (Q 8 k).toNatClampNeg (Q 7 k) = true then pS (pF N Q P (k + 1)) 1 k (Q 8 k) else pF N Q P (k + 1) := by
  funext a j
  by_cases e : j = k
  · subst e
    by_cases c : aAway N P (Q 8 j).toNatClampNeg (Q 7 j) = true
    · rw [if_pos c]
      unfold pS pF
      by_cases a0 : a = 0
      · subst a0; simp
      · by_cases a1 : a = 1
        · subst a1; simp
        · by_cases a2 : a = 2
          · subst a2; simp
          · by_cases a3 : a = 3
            · subst a3; simp
            · simp [a0, a1, a2, a3]
    · rw [if_neg c]
      unfold pS pF
      by_cases a0 : a = 0
      · subst a0; simp
      · by_cases a1 : a = 1
        · subst a1; simp [aFT, c]
        · by_cases a2 : a = 2
          · subst a2; simp
          · by_cases a3 : a = 3
            · subst a3; simp
            · simp [a0, a1, a2, a3]
  · have h : (j < k + 1) = (j < k) := propext ⟨fun h => by omega, fun h => by omega⟩
    split
    · unfold pS pF; simp only [e, and_false, if_false, h]
    · unfold pS pF; simp only [e, and_false, if_false, h]
theorem dWP_pF (hW : dWQ N Q) : dWP N (pF N Q P (N 6)) := by
  obtain ⟨_, h0, h1, h2, h3, h4⟩ := hW
  have e0 : ∀ k, k < N 6 → pF N Q P (N 6) 0 k = Q 7 k := fun k hk => by unfold pF; simp [hk]
  have e1 : ∀ k, k < N 6 → pF N Q P (N 6) 1 k = aFT N Q P k := fun k hk => by unfold pF; simp [hk]
  have e2 : ∀ k, k < N 6 → pF N Q P (N 6) 2 k = Q 9 k := fun k hk => by unfold pF; simp [hk]
  have e3 : ∀ k, k < N 6 → pF N Q P (N 6) 3 k = 0 := fun k hk => by unfold pF; simp [hk]
  have ef : ∀ k, aFT N Q P k = -1 ∨ aFT N Q P k = Q 8 k := fun k => by unfold aFT; split <;> simp
  refine ⟨fun k hk => by rw [e0 k hk]; exact h0 k hk, fun k hk => ?_, fun k hk => by rw [e2 k hk]; exact h2 k hk, fun k hk => Or.inl (e3 k hk), fun i k hi hk hik e hn => ?_, fun i k hi hk hik e => ?_⟩
  · rw [e1 k hk]
    rcases ef k with e | e
    · exact Or.inl e
    · rw [e]; exact Or.inr (h1 k hk)
  · rw [e0 i hi, e0 k hk] at e
    rw [e1 i hi] at hn
    rw [e1 i hi, e1 k hk]
    rcases ef i with a | a
    · exact absurd a hn
    · rcases ef k with b | b
      · rw [b]; exact hn
      · rw [a, b]; exact h3 i k hi hk hik e
  · rw [e0 i hi, e0 k hk] at e
    rw [e2 i hi, e2 k hk]
    exact h4 i k hi hk hik e
theorem aAway_c {P2 : Nat → Nat → Int32} (h : ∀ k, P2 4 k = P 4 k) (t : Nat) (x : Int32) : aAway N P2 t x = aAway N P t x := by unfold aAway; rw [h]
theorem c_return (hN : dWN N) (hQ : dWQ N Q) (h : dC N Q P s) : ∃ s1, f_X3_returnToFirst s = some s1 ∧ dFp s s1 ∧ dC N Q (pF N Q P (N 6)) s1 := by
  have hB := dWN_b hN
  rw [fe_X3_returnToFirst]; unfold fb_X3_returnToFirst
  obtain ⟨s1, e1, i1, i2⟩ := d_sl (F := fun n k t => f_X3_returnToFirst_h2 n (nI k) t) (M := N 6) (G := some) (I := fun k t => dFp s t ∧ dC N Q (pF N Q P k) t)
    (fun n k t hk hI => by
      obtain ⟨h1, h2⟩ := hI
      obtain ⟨x, hx, ex⟩ := hQ.2.1 k hk
      obtain ⟨tt, ht, et⟩ := hQ.2.2.1 k hk
      have g1 : dC N Q (pS (pF N Q P k) 0 k (Q 7 k)) (ga_up t 22 k (Q 7 k)) := dC_pS (i := 0) (by omega) _ h2
      have g2 : dC N Q (pS (pS (pF N Q P k) 0 k (Q 7 k)) 2 k (Q 9 k)) (ga_up (ga_up t 22 k (Q 7 k)) 26 k (Q 9 k)) := dC_pS (i := 2) (by omega) _ g1
      have g3 : dC N Q (pS (pS (pS (pF N Q P k) 0 k (Q 7 k)) 2 k (Q 9 k)) 1 k (aFT N Q P k)) (ga_up (ga_up (ga_up t 22 k (Q 7 k)) 26 k (Q 9 k)) 24 k (aFT N Q P k)) := dC_pS (i := 1) (by omega) _ g2
      have g4 : dC N Q (pF N Q P (k + 1)) (ga_up (ga_up (ga_up (ga_up t 22 k (Q 7 k)) 26 k (Q 9 k)) 24 k (aFT N Q P k)) 28 k 0) := by
        have := dC_pS (i := 3) (k := k) (by omega) 0 g3
        rw [pF_succ] at this
        exact this
      refine ⟨_, ?_, dFp_trans h1 (dFp_trans (dFp_up _ _ _ (by omega) (by omega)) (dFp_trans (dFp_up _ _ _ (by omega) (by omega)) (dFp_trans (dFp_up _ _ _ (by omega) (by omega)) (dFp_up _ _ _ (by omega) (by omega))))), g4⟩
      show f_X3_returnToFirst_h2 (n + 1) _ _ = _
      rw [f_X3_returnToFirst_h2]
      dsimp only
      rw [dcN h2 (by decide), if_neg (nI_ge hk (by omega))]
      simp (disch := omega) only [d_at, d_pt]
      rw [dc15 h2 hk, dc17 h2 hk, dc19 g1 hk]
      have ha : f_X3_isAwayAt (Q 8 k) (Q 7 k) (ga_up (ga_up t 22 k (Q 7 k)) 26 k (Q 9 k)) = some (aB (aAway N P (Q 8 k).toNatClampNeg (Q 7 k))) := by
        rw [et, ex] at *
        rw [dc_isAwayAt hN g2 ht hx, d_cl (show tt < 2147483648 by omega)]
        rw [aAway_c (P := P) (fun j => by rw [pS_ne (by omega), pS_ne (by omega), pF_4])]
      rw [ha, Option.bind_some, d_p1]
      unfold aFT
      cases aAway N P (Q 8 k).toNatClampNeg (Q 7 k)
      · rw [if_pos (show aB false = 0 from rfl), if_neg (show ¬ false = true by decide)]
      · rw [if_neg (show ¬ aB true = 0 by decide), if_pos rfl])
    (fun n t hI => by
      show f_X3_returnToFirst_h2 (n + 1) _ _ = _
      rw [f_X3_returnToFirst_h2, dcN hI.2 (by decide), if_pos (nI_le (Nat.le_refl _) (by omega))])
    (N 6) 0 ga_fuel s (by omega) (d_fuel (by omega)) ⟨dFp_refl s, by rw [pF_0]; exact h⟩
  exact ⟨s1, e1, i1, i2⟩
end D35
