section D27
/-! ===== the class's chain: choosing, finding ===== -/
variable {N : Nat → Nat} {Q P : Nat → Nat → Int32} {s : ga_M}
/-- forward: always the lowest that comes to the end -/
theorem dc_fwd (hN : dWN N) {E : Nat → Nat → Bool} {A : Nat → Prop} {C0 : Nat → Bool} {L : Nat} (hL : L ≤ 4) : ∀ (d k n : Nat) (C : Nat → Bool) (m : Int32) (s : ga_M), k + d + 1 = L → d + 1 < n → s 32 6 = nI L →
    (∀ t, t < N 3 → ∀ i, i < 32 → (bt (s 34 t) i = true ↔ i < N 3 ∧ E t i = true)) →
    (∀ j, j < L → ∀ i, i < 32 → (bt (s 38 j) i = true ↔ gR (N 3) E C0 j i ∧ gFin (N 3) E A (L - 1 - j) i)) →
    (∀ i, i < 32 → (bt m i = true ↔ i < N 3 ∧ C i = true)) → (∀ i, i < N 3 → C i = true → gR (N 3) E C0 k i) → (∃ t, t < N 3 ∧ C t = true ∧ gFin (N 3) E A d t) →
    ∃ s2 c, f_X0_choose_h72 n m (nI k) s = some s2 ∧ (∀ a, a ≠ 40 → s2 a = s a) ∧ (∀ j, j < k → s2 40 j = s 40 j) ∧ gG (N 3) E A d C c ∧ c.length = d + 1 ∧ ∀ j, j < d + 1 → s2 40 (k + j) = nI (c.getD j 0) := by
  have hB := dWN_b hN
  intro d
  induction d with
  | zero =>
    intro k n C m s hk hn h6 h34 h38 hm hC hex
    obtain ⟨n, rfl⟩ : ∃ j, n = j + 2 := ⟨n - 2, by omega⟩
    have hbit : ∀ i, i < 32 → (bt (m &&& s 38 k) i = true ↔ i < N 3 ∧ C i = true ∧ A i) := by
      intro i hi
      rw [b_and, Bool.and_eq_true, hm i hi, h38 k (by omega) i hi, show L - 1 - k = 0 by omega]
      exact ⟨fun ⟨⟨a1, a2⟩, _, a3⟩ => ⟨a1, a2, a3⟩, fun ⟨a1, a2, a3⟩ => ⟨⟨a1, a2⟩, hC i a1 a2, a3⟩⟩
    obtain ⟨t0, ht0, hC0, hA0⟩ := hex
    rcases dFind_spec (fun t => bt (m &&& s 38 k) t) 8 with ⟨_, e2⟩ | ⟨t, e1, e2, e3, e4⟩
    · have := e2 t0 (by omega)
      rw [(hbit t0 (by omega)).mpr ⟨ht0, hC0, hA0⟩] at this
      cases this
    have e3' := (hbit t (by omega)).mp e3
    unfold f_X0_choose_h72
    dsimp only
    rw [h6, if_neg (nI_ge (show k < L by omega) (by omega)), d_at (show k < 4 by omega) (by omega), dc_lowest, Option.bind_some, e2, d_pt (show k < 4 by omega) (by omega), d_r1]
    unfold f_X0_choose_h72
    dsimp only
    rw [d_up_ne (show 32 ≠ 40 by decide), h6, if_pos (nI_le (show L ≤ k + 1 by omega) (by omega))]
    refine ⟨_, [t], rfl, fun a ha => d_up_ne ha, fun j hj => d_up_nk (fun o => by omega), ⟨t, rfl, e3'.1, e3'.2.1, e3'.2.2, fun t' h1 h2 h3 => ?_⟩, rfl, fun j hj => ?_⟩
    · by_cases c : t ≤ t'
      · exact c
      · have := e4 t' (by omega)
        rw [(hbit t' (by omega)).mpr ⟨h1, h2, h3⟩] at this
        cases this
    · have : j = 0 := by omega
      subst this
      rw [Nat.add_zero, d_up_eq]; rfl
  | succ d ih =>
    intro k n C m s hk hn h6 h34 h38 hm hC hex
    obtain ⟨n, rfl⟩ : ∃ j, n = j + 1 := ⟨n - 1, by omega⟩
    have hbit : ∀ i, i < 32 → (bt (m &&& s 38 k) i = true ↔ i < N 3 ∧ C i = true ∧ gFin (N 3) E A (d + 1) i) := by
      intro i hi
      rw [b_and, Bool.and_eq_true, hm i hi, h38 k (by omega) i hi, show L - 1 - k = d + 1 by omega]
      exact ⟨fun ⟨⟨a1, a2⟩, _, a3⟩ => ⟨a1, a2, a3⟩, fun ⟨a1, a2, a3⟩ => ⟨⟨a1, a2⟩, hC i a1 a2, a3⟩⟩
    obtain ⟨t0, ht0, hC0, hA0⟩ := hex
    rcases dFind_spec (fun t => bt (m &&& s 38 k) t) 8 with ⟨_, e2⟩ | ⟨t, e1, e2, e3, e4⟩
    · have := e2 t0 (by omega)
      rw [(hbit t0 (by omega)).mpr ⟨ht0, hC0, hA0⟩] at this
      cases this
    have e3' := (hbit t (by omega)).mp e3
    unfold f_X0_choose_h72
    dsimp only
    rw [h6, if_neg (nI_ge (show k < L by omega) (by omega)), d_at (show k < 4 by omega) (by omega), dc_lowest, Option.bind_some, e2, d_pt (show k < 4 by omega) (by omega), d_r1, d_at (show t < 8 by omega) (by omega), d_up_ne (show 34 ≠ 40 by decide)]
    obtain ⟨u, hu, hE, hF⟩ := e3'.2.2
    obtain ⟨s2, c, k1, k2, k3, k4, k5, k6⟩ := ih (k + 1) n (E t) (s 34 t) (ga_up s 40 k (nI t)) (by omega) (by omega) (by rw [d_up_ne (by decide)]; exact h6)
      (by rw [d_up_ne (by decide)]; exact h34) (by rw [d_up_ne (by decide)]; exact h38) (h34 t e3'.1) (fun i hi hE => ⟨hi, t, e3'.1, hC t e3'.1 e3'.2.1, hE⟩) ⟨u, hu, hE, hF⟩
    refine ⟨s2, t :: c, k1, fun a ha => by rw [k2 a ha, d_up_ne ha], fun j hj => by rw [k3 j (by omega), d_up_nk (fun o => by omega)], ⟨t, c, rfl, e3'.1, e3'.2.1, e3'.2.2, fun t' h1 h2 h3 => ?_, k4⟩, by simp [k5], fun j hj => ?_⟩
    · by_cases cc : t ≤ t'
      · exact cc
      · have := e4 t' (by omega)
        rw [(hbit t' (by omega)).mpr ⟨h1, h2, h3⟩] at this
        cases this
    · cases j with
      | zero => rw [Nat.add_zero, k3 k (by omega), d_up_eq]; rfl
      | succ j => rw [show k + (j + 1) = k + 1 + j by omega, k6 j (by omega)]; rfl
/-- backward: who can come to the end -/
theorem dc_bwd (hN : dWN N) {E : Nat → Nat → Bool} {A : Nat → Prop} {C0 : Nat → Bool} {L : Nat} (hL : L ≤ 4) : ∀ (k n : Nat) (s : ga_M), dC N Q P s → k + 1 ≤ L → k < n → s 32 6 = nI L →
    (∀ t, t < N 3 → ∀ i, i < 32 → (bt (s 34 t) i = true ↔ i < N 3 ∧ E t i = true)) →
    (∀ j, j < L → ∀ i, i < 32 → (bt (s 36 j) i = true ↔ gR (N 3) E C0 j i)) →
    (∀ j, k ≤ j → j < L → ∀ i, i < 32 → (bt (s 38 j) i = true ↔ gR (N 3) E C0 j i ∧ gFin (N 3) E A (L - 1 - j) i)) →
    ∃ s2, f_X0_choose_h21 n (nI k - 1) s = f_X0_choose_h72 ga_fuel (s 36 0) 0 s2 ∧ (∀ a, a ≠ 38 → s2 a = s a) ∧
      ∀ j, j < L → ∀ i, i < 32 → (bt (s2 38 j) i = true ↔ gR (N 3) E C0 j i ∧ gFin (N 3) E A (L - 1 - j) i) := by
  have hB := dWN_b hN
  intro k
  induction k with
  | zero =>
    intro n s h hk hn h6 h34 h36 h38
    obtain ⟨n, rfl⟩ : ∃ j, n = j + 1 := ⟨n - 1, by omega⟩
    unfold f_X0_choose_h21
    rw [if_pos (by decide)]
    refine ⟨s, ?_, fun _ _ => rfl, fun j hj => h38 j (by omega) hj⟩
    have : ga_at 36 4 0 s = s 36 0 := d_at (k := 0) (by omega) (by omega)
    rw [this]
  | succ k ih =>
    intro n s h hk hn h6 h34 h36 h38
    obtain ⟨n, rfl⟩ : ∃ j, n = j + 1 := ⟨n - 1, by omega⟩
    unfold f_X0_choose_h21
    rw [nI_pred, if_neg (nI_pos (show k < 2147483648 by omega)), d_r1, d_at (show k + 1 < 4 by omega) (by omega), d_at (show k < 4 by omega) (by omega), dc_before hN h, Option.bind_some, d_pt (show k < 4 by omega) (by omega)]
    have e : nI k + (-1) = nI k - 1 := by
      apply Int32.toBitVec_inj.mp; simp only [Int32.toBitVec_sub, Int32.toBitVec_add, Int32.toBitVec_neg]; bv_omega
    rw [e]
    have h38' : ∀ j, k ≤ j → j < L → ∀ i, i < 32 → (bt (ga_up s 38 k (dMs (fun t => bt (s 36 k) t && !decide (s 34 t &&& s 38 (k + 1) = 0)) (N 3)) 38 j) i = true ↔ gR (N 3) E C0 j i ∧ gFin (N 3) E A (L - 1 - j) i) := by
      intro j hj1 hj2 i hi
      by_cases ej : j = k
      · subst ej
        rw [d_up_eq, b_msI (by omega) hi, Bool.and_eq_true, h36 j (by omega) i hi, show L - 1 - j = (L - 1 - (j + 1)) + 1 by omega]
        constructor
        · rintro ⟨a1, a2, a3⟩
          refine ⟨a2, ?_⟩
          simp only [Bool.not_eq_true', decide_eq_false_iff_not] at a3
          have : ∃ u, u < 32 ∧ bt (s 34 i &&& s 38 (j + 1)) u = true := by
            by_cases hh : ∃ u, u < 32 ∧ bt (s 34 i &&& s 38 (j + 1)) u = true
            · exact hh
            · exact absurd (b_zero.mpr (fun u hu => by
                cases e : bt (s 34 i &&& s 38 (j + 1)) u
                · rfl
                · exact absurd ⟨u, hu, e⟩ hh)) a3
          obtain ⟨u, hu, hb⟩ := this
          rw [b_and, Bool.and_eq_true, h34 i a1 u hu, h38 (j + 1) (by omega) (by omega) u hu] at hb
          exact ⟨u, hb.1.1, hb.1.2, hb.2.2⟩
        · rintro ⟨a1, u, hu, hE, hF⟩
          have hi3 := gR_lt a1
          refine ⟨hi3, a1, ?_⟩
          simp only [Bool.not_eq_true', decide_eq_false_iff_not]
          intro e0
          have := b_zero.mp e0 u (by omega)
          rw [b_and, (h34 i hi3 u (by omega)).mpr ⟨hu, hE⟩, (h38 (j + 1) (by omega) (by omega) u (by omega)).mpr ⟨⟨hu, i, hi3, a1, hE⟩, hF⟩] at this
          cases this
      · rw [d_up_nk (fun o => ej o.2)]
        exact h38 j (by omega) hj2 i hi
    obtain ⟨s2, k1, k2, k3⟩ := ih n (ga_up s 38 k (dMs (fun t => bt (s 36 k) t && !decide (s 34 t &&& s 38 (k + 1) = 0)) (N 3))) (dC_lt (fun c hc => d_up_ne (by omega)) h) (by omega) (by omega) (by rw [d_up_ne (by decide)]; exact h6)
      (by rw [d_up_ne (by decide)]; exact h34) (by rw [d_up_ne (by decide)]; exact h36) h38'
    exact ⟨s2, by rw [k1, d_up_ne (by decide)], fun a ha => by rw [k2 a ha, d_up_ne ha], k3⟩
end D27
