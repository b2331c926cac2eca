section D53
/-! ===== a new school is taken over ===== -/
variable {T : Nat → Nat} {L : Nat} {N : Nat → Nat} {Q : Nat → Nat → Int32} {s t : ga_M}
def dP0 (Q : Nat → Nat → Int32) : Nat → Nat → Int32 := fun a k => if a = 0 then Q 7 k else if a = 1 then Q 8 k else if a = 2 then Q 9 k else 0
theorem d_bc_ne {a n b n2 x : Nat} (h : x ≠ a) : ga_bc a n b n2 s x = s x := by unfold ga_bc; rw [if_neg h]
theorem d_bc_eq {a n b j : Nat} (h : j < n) (hn : n < 2147483648) : ga_bc a n b n s a j = s b j := by
  unfold ga_bc; rw [if_pos rfl, if_pos h, d_at h hn]
theorem dWP_0 (hW : dWQ N Q) : dWP N (dP0 Q) := by
  obtain ⟨_, h0, h1, h2, h3, h4⟩ := hW
  exact ⟨h0, fun k hk => Or.inr (h1 k hk), h2, fun k hk => Or.inl rfl, fun i k hi hk hik e hn => h3 i k hi hk hik e, fun i k hi hk hik e => h4 i k hi hk hik e⟩
theorem c_become (hB : dBd N) (h : dC2 49 N Q s) : dC2 1 N Q (v_X7_become_49 s) ∧ ∀ c, 20 ≤ c ∨ c = 0 → v_X7_become_49 s c = s c := by
  rw [ve_X7_become_49]; unfold vb_X7_become_49
  obtain ⟨h0, h⟩ := h
  refine ⟨⟨fun k hk => ?_, fun a ha ha9 k hk => ?_⟩, fun c hc => ?_⟩
  · dsimp only
    rw [← h0 k hk]
    rcases (show k = 0 ∨ k = 1 ∨ k = 2 ∨ k = 3 ∨ k = 4 ∨ k = 5 ∨ k = 6 by omega) with rfl | rfl | rfl | rfl | rfl | rfl | rfl
    all_goals
      simp (disch := omega) only [d_bc_ne, d_up_ne]
      simp only [d_up_at, Nat.reduceEqDiff, reduceCtorEq, true_and, and_false, false_and, if_true, if_false, and_self]
  · have hc := gov_cap hB a
    rw [← h a ha ha9 k hk]
    dsimp only
    have hcap : cap 1 = 6 ∧ cap 2 = 8 ∧ cap 3 = 8 ∧ cap 4 = 6 ∧ cap 5 = 40 ∧ cap 6 = 40 ∧ cap 7 = 40 ∧ cap 8 = 40 ∧ cap 9 = 40 := by decide
    rcases (show a = 1 ∨ a = 2 ∨ a = 3 ∨ a = 4 ∨ a = 5 ∨ a = 6 ∨ a = 7 ∨ a = 8 ∨ a = 9 by omega) with rfl | rfl | rfl | rfl | rfl | rfl | rfl | rfl | rfl
    all_goals
      simp (disch := omega) only [d_bc_ne, d_bc_eq, d_up_ne, Nat.reduceMul, Nat.reduceAdd]
  · simp only [d_bc_ne, d_up_ne, show c ≠ 1 by omega, show c ≠ 3 by omega, show c ≠ 5 by omega, show c ≠ 7 by omega, show c ≠ 9 by omega, show c ≠ 11 by omega, show c ≠ 13 by omega, show c ≠ 15 by omega, show c ≠ 17 by omega, show c ≠ 19 by omega, ne_eq, not_false_eq_true]
theorem c_begin (hN : dWN N) (hQ : dWQ N Q) (h : dCS 1 N Q s) : ∃ s1, f_X3_begin s = some s1 ∧ dFp s s1 ∧ dC N Q (dP0 Q) s1 := by
  have hB := dWN_b hN
  rw [fe_X3_begin]; unfold fb_X3_begin
  obtain ⟨s1, e1, i1, i2⟩ := d_sl (F := fun n k t => f_X3_begin_h2 n (nI k) t) (M := 8) (G := fun t => (f_X3_returnToFirst t).bind fun s => some s) (I := fun k t => (∀ c, c ≠ 30 → t c = s c) ∧ ∀ j, j < k → t 30 j = 0)
    (fun n k t hk hI => by
      refine ⟨ga_up t 30 k 0, ?_, fun c hc => by rw [d_up_ne hc, hI.1 c hc], fun j hj => ?_⟩
      · show f_X3_begin_h2 (n + 1) _ _ = _
        rw [f_X3_begin_h2]
        dsimp only
        rw [if_neg (show ¬ (8 : Int32) ≤ nI k from nI_ge (b := 8) hk (by omega)), d_pt hk (by omega), d_p1]
      · rw [d_up_at]
        by_cases e : j = k
        · rw [if_pos ⟨rfl, e⟩]
        · rw [if_neg (fun q => e q.2)]; exact hI.2 j (by omega))
    (fun n t hI => by
      show f_X3_begin_h2 (n + 1) _ _ = _
      rw [f_X3_begin_h2, if_pos (show (8 : Int32) ≤ nI 8 from nI_le (Nat.le_refl 8) (by omega))])
    8 0 ga_fuel s (by omega) (d_fuel (by omega)) ⟨fun _ _ => rfl, fun j hj => by omega⟩
  have e0 : f_X3_begin_h2 ga_fuel 0 s = _ := e1
  rw [e0]
  have hC : dC N Q (fun a k => s1 (22 + 2 * a) k) s1 := by
    refine ⟨?_, fun k _ => rfl, fun k _ => rfl, fun k _ => rfl, fun k _ => rfl, fun k _ => rfl⟩
    unfold dCS at *
    simp only [i1 1 (by omega), i1 (1 + 2) (by omega), i1 (1 + 4) (by omega), i1 (1 + 6) (by omega), i1 (1 + 8) (by omega), i1 (1 + 10) (by omega), i1 (1 + 12) (by omega), i1 (1 + 14) (by omega), i1 (1 + 16) (by omega), i1 (1 + 18) (by omega)]
    exact h
  obtain ⟨s2, e2, f2, g2⟩ := c_return hN hQ hC
  rw [e2]
  refine ⟨s2, rfl, fun c hc => by rw [f2 c hc, i1 c (by omega)], g2.1, ?_⟩
  obtain ⟨_, p0, p1, p2, p3, p4⟩ := g2
  have hz : ∀ j, j < 8 → s1 30 j = 0 := i2
  have aw : ∀ k, k < N 6 → aFT N Q (fun a k => s1 (22 + 2 * a) k) k = Q 8 k := fun k hk => by
    obtain ⟨j, hj, ej⟩ := hQ.2.2.1 k hk
    unfold aFT aAway
    rw [ej, d_cl (by omega)]
    show (if dHb (s1 30 j) _ = true then _ else _) = _
    rw [hz j (by omega)]
    rw [if_neg]
    unfold dHb
    rw [Int32.zero_shiftRight]
    simp
  refine ⟨fun k hk => ?_, fun k hk => ?_, fun k hk => ?_, fun k hk => ?_, fun k hk => ?_⟩
  · rw [p0 k hk]; unfold pF dP0; simp [hk]
  · rw [p1 k hk]; unfold pF dP0; simp [hk, aw k hk]
  · rw [p2 k hk]; unfold pF dP0; simp [hk]
  · rw [p3 k hk]; unfold pF dP0; simp [hk]
  · rw [p4 k hk, pF_4]; unfold dP0
    show s1 30 k = _
    rw [hz k hk]; simp
end D53
