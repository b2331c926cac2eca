section D25
/-! ===== the class's chain: sets ===== -/
variable {N : Nat → Nat} {Q P : Nat → Nat → Int32} {s : ga_M}
def gC (N : Nat → Nat) (Q P : Nat → Nat → Int32) (x : Int32) (l t : Nat) : Bool := !aAway N P t x && aQual Q t l
def gE (N : Nat → Nat) (Q P : Nat → Nat → Int32) (x : Int32) (t u : Nat) : Bool := decide (∃ k, k < N 6 ∧ (P 0 k = x ∧ P 1 k = nI t ∧ P 3 k = 0 ∧ gC N Q P x k u = true))
def gF (N : Nat → Nat) (Q P : Nat → Nat → Int32) (x : Int32) (t : Nat) : Bool := decide (aAt N P 1 x (nI t) = -1) && decide (aLoad N Q P (nI t) < Q 2 t)
def gLd (N : Nat → Nat) (Q P : Nat → Nat → Int32) (t : Nat) : Int32 := aLoad N Q P (nI t)
theorem b_msI {p : Nat → Bool} {n i : Nat} (hn : n ≤ 32) (hi : i < 32) : bt (dMs p n) i = true ↔ i < n ∧ p i = true := by
  rw [b_ms p hn hi, Bool.and_eq_true, decide_eq_true_eq]
theorem dC_lt {s' : ga_M} (e : ∀ c, c ≤ 30 → s' c = s c) (h : dC N Q P s) : dC N Q P s' := by
  unfold dC dCS dCP at *
  simp only [e _ (show 1 ≤ 30 by omega), e _ (show 1 + 2 ≤ 30 by omega), e _ (show 1 + 4 ≤ 30 by omega), e _ (show 1 + 6 ≤ 30 by omega), e _ (show 1 + 8 ≤ 30 by omega), e _ (show 1 + 10 ≤ 30 by omega), e _ (show 1 + 12 ≤ 30 by omega), e _ (show 1 + 14 ≤ 30 by omega), e _ (show 1 + 16 ≤ 30 by omega), e _ (show 1 + 18 ≤ 30 by omega), e _ (show 22 ≤ 30 by omega), e _ (show 24 ≤ 30 by omega), e _ (show 26 ≤ 30 by omega), e _ (show 28 ≤ 30 by omega), e _ (show 30 ≤ 30 by omega)]
  exact h
theorem dc_presentAt (hN : dWN N) (h : dC N Q P s) {x : Nat} (hx : x < dSl N) : f_X0_presentAt (nI x) s = some (dMs (fun t => !aAway N P t (nI x)) (N 3)) := by
  have hB := dWN_b hN
  obtain ⟨hd, hd2⟩ := d_day hN hx
  rw [fe_X0_presentAt]; unfold fb_X0_presentAt
  rw [dc_dayOf hN h, Option.bind_some, hd]
  refine (d_fold0 (F := fun n k a => f_X0_presentAt_h14 n (nI (x / N 1)) a (nI k) s) (f := dMf (fun t => !aAway N P t (nI x))) (g := some) (N := N 3) (by omega) (fun n k a hk => ?_) (fun n a => ?_) 0)
  · have e : aAway N P k (nI x) = dHb (P 4 k) (nI (x / N 1)) := by unfold aAway; rw [hd]
    simp (disch := omega) only [f_X0_presentAt_h14, dcN h, dc3 h, dc5 h, dc7 h, dc9 h, dc11 h, dc13 h, dc15 h, dc17 h, dc19 h, dc22 h, dc24 h, dc26 h, dc28 h, dc30 h, dc_isAway hN h hk (show x / N 1 < 31 by omega), ← e, d_a0, d_a1, d_a7, d_a13, d_a21, d_a29, d_a35, d_a40, d_a75, d_a80, d_a115, d_a120, d_a155, d_a160, d_a195, d_r1, d_nI0, d_ix, d_cl, d_le, d_lt, d_eq, d_at, d_pt, if_false, if_true, Int32.add_zero, Option.bind_some, reduceIte, Nat.zero_add, Bool.and_eq_true, decide_eq_true_eq, decide_true, decide_false, Bool.and_true, Bool.true_and, Bool.false_and, Bool.and_false, Bool.true_eq_false, Bool.false_eq_true, false_and, and_false, true_and, and_true, d_n0, d_lef, false_or, or_false, or_self, false_and, not_true_eq_false, not_false_eq_true, ne_eq, not_true, not_false_iff, aB_0, aB_1]
    cases c1 : aAway N P k (nI x) <;> simp [c1, dMf]
  · simp (disch := omega) only [f_X0_presentAt_h14, dcN h, dc3 h, dc5 h, dc7 h, dc9 h, dc11 h, dc13 h, dc15 h, dc17 h, dc19 h, dc22 h, dc24 h, dc26 h, dc28 h, dc30 h]
    rw [if_pos (nI_le (Nat.le_refl _) (by omega))]
theorem dc_busy0 (hN : dWN N) (h : dC N Q P s) (x pr : Int32) : ∃ s1, f_X0_busyAt x pr s = f_X0_busyAt_h28 ga_fuel x pr 0 0 s1 ∧ (∀ c, c ≠ 34 → s1 c = s c) ∧ ∀ j, j < 8 → s1 34 j = 0 := by
  rw [fe_X0_busyAt]; unfold fb_X0_busyAt
  have key : ∀ m k n s1, k + m = 8 → m < n → (∀ c, c ≠ 34 → s1 c = s c) → (∀ j, j < k → s1 34 j = 0) → ∃ s2, f_X0_busyAt_h2 n x pr (nI k) s1 = f_X0_busyAt_h28 ga_fuel x pr 0 0 s2 ∧ (∀ c, c ≠ 34 → s2 c = s c) ∧ ∀ j, j < 8 → s2 34 j = 0 := by
    intro m
    induction m with
    | zero =>
      intro k n s1 hk hn h1 h2
      obtain ⟨n, rfl⟩ : ∃ j, n = j + 1 := ⟨n - 1, by omega⟩
      have : k = 8 := by omega
      subst this
      unfold f_X0_busyAt_h2
      rw [if_pos (by decide)]
      exact ⟨s1, rfl, h1, h2⟩
    | succ m ih =>
      intro k n s1 hk hn h1 h2
      obtain ⟨n, rfl⟩ : ∃ j, n = j + 1 := ⟨n - 1, by omega⟩
      unfold f_X0_busyAt_h2
      rw [if_neg (show ¬ (8 : Int32) ≤ nI k from nI_ge (b := 8) (by omega) (by omega)), d_pt (by omega) (by omega), d_r1]
      refine ih (k + 1) n _ (by omega) (by omega) (fun c hc => ?_) (fun j hj => ?_)
      · rw [d_up_ne hc]; exact h1 c hc
      · rw [d_up_at]
        split
        · rfl
        · rename_i hne
          exact h2 j (by
            by_cases e : j = k
            · exact absurd ⟨rfl, e⟩ hne
            · omega)
  exact key 8 0 ga_fuel s (by omega) (d_fuel (by omega)) (fun _ _ => rfl) (fun j hj => by omega)
theorem dc_busyAt (hW : dW N Q P) (h : dC N Q P s) {x : Nat} (hx : x < dSl N) : ∃ m s1, f_X0_busyAt (nI x) (dMs (fun t => !aAway N P t (nI x)) (N 3)) s = some (m, s1) ∧ (∀ c, c ≠ 34 → s1 c = s c) ∧
    (∀ i, i < 32 → (bt m i = true ↔ ∃ j, j < N 6 ∧ P 0 j = nI x ∧ P 1 j = nI i)) ∧ ∀ t, t < N 3 → ∀ i, i < 32 → (bt (s1 34 t) i = true ↔ i < N 3 ∧ gE N Q P (nI x) t i = true) := by
  have hN := hW.1
  have hB := dWN_b hN
  obtain ⟨s0, e0, h1, h2⟩ := dc_busy0 hN h (nI x) (dMs (fun t => !aAway N P t (nI x)) (N 3))
  rw [e0]
  have key : ∀ r k n m s1, k + r = N 6 → r < n → (∀ c, c ≠ 34 → s1 c = s c) → (∀ i, i < 32 → (bt m i = true ↔ ∃ j, j < k ∧ P 0 j = nI x ∧ P 1 j = nI i)) →
      (∀ t, t < N 3 → ∀ i, i < 32 → (bt (s1 34 t) i = true ↔ i < N 3 ∧ ∃ j, j < k ∧ (P 0 j = nI x ∧ P 1 j = nI t ∧ P 3 j = 0 ∧ gC N Q P (nI x) j i = true))) →
      ∃ m2 s2, f_X0_busyAt_h28 n (nI x) (dMs (fun t => !aAway N P t (nI x)) (N 3)) m (nI k) s1 = some (m2, s2) ∧ (∀ c, c ≠ 34 → s2 c = s c) ∧
        (∀ i, i < 32 → (bt m2 i = true ↔ ∃ j, j < N 6 ∧ P 0 j = nI x ∧ P 1 j = nI i)) ∧ ∀ t, t < N 3 → ∀ i, i < 32 → (bt (s2 34 t) i = true ↔ i < N 3 ∧ gE N Q P (nI x) t i = true) := by
    intro r
    induction r with
    | zero =>
      intro k n m s1 hk hn k1 k2 k3
      obtain ⟨n, rfl⟩ : ∃ j, n = j + 1 := ⟨n - 1, by omega⟩
      have : k = N 6 := by omega
      subst this
      have h := dC_lt (s' := s1) (fun c hc => k1 c (by omega)) h
      unfold f_X0_busyAt_h28
      rw [dcN h (by decide), if_pos (nI_le (Nat.le_refl _) (by omega))]
      refine ⟨m, s1, rfl, k1, k2, fun t ht i hi => ?_⟩
      rw [k3 t ht i hi]
      unfold gE
      rw [decide_eq_true_eq]
    | succ r ih =>
      intro k n m s1 hk hn k1 k2 k3
      obtain ⟨n, rfl⟩ : ∃ j, n = j + 1 := ⟨n - 1, by omega⟩
      have hs := h
      have h := dC_lt (s' := s1) (fun c hc => k1 c (by omega)) h
      have hk6 : k < N 6 := by omega
      obtain ⟨q, hq, eq⟩ := hW.2.1.1 k hk6
      unfold f_X0_busyAt_h28
      simp (disch := omega) only [dcN h, dc3 h, dc5 h, dc7 h, dc9 h, dc11 h, dc13 h, dc15 h, dc17 h, dc19 h, dc22 h, dc24 h, dc26 h, dc28 h, dc30 h, eq, dc_isOpen hN h hk6, dc_isTaught hN h hk6, dc_qualifiedFor hN h (show q < 31 by omega), d_a0, d_a1, d_a7, d_a13, d_a21, d_a29, d_a35, d_a40, d_a75, d_a80, d_a115, d_a120, d_a155, d_a160, d_a195, d_r1, d_nI0, d_ix, d_cl, d_le, d_lt, d_eq, d_at, d_pt, if_false, if_true, Int32.add_zero, Option.bind_some, reduceIte, Nat.zero_add, Bool.and_eq_true, decide_eq_true_eq, decide_true, decide_false, Bool.and_true, Bool.true_and, Bool.false_and, Bool.and_false, Bool.true_eq_false, Bool.false_eq_true, false_and, and_false, true_and, and_true, d_n0, d_lef, false_or, or_false, or_self, false_and, not_true_eq_false, not_false_eq_true, ne_eq, not_true, not_false_iff, aB_0, aB_1]
      have step : ∀ {p : Nat → Prop}, (∃ j, j < k + 1 ∧ p j) ↔ ((∃ j, j < k ∧ p j) ∨ p k) := by
        intro p
        constructor
        · rintro ⟨j, hj, hp⟩
          by_cases e : j = k
          · subst e; exact Or.inr hp
          · exact Or.inl ⟨j, by omega, hp⟩
        · rintro (⟨j, hj, hp⟩ | hp)
          · exact ⟨j, by omega, hp⟩
          · exact ⟨k, by omega, hp⟩
      by_cases c0 : P 0 k = nI x
      · by_cases c1 : P 1 k = -1
        · simp only [c0, c1, if_true, decide_true, Bool.true_eq_false, if_false]
          refine ih (k + 1) n _ _ (by omega) (by omega) k1 (fun i hi => ?_) (fun t ht i hi => ?_)
          · rw [k2 i hi, step]
            refine ⟨Or.inl, fun o => o.elim id (fun ⟨_, e⟩ => ?_)⟩
            rw [c1] at e
            exact absurd e.symm (d_ne1 (by omega))
          · rw [k3 t ht i hi, step]
            refine ⟨fun ⟨a, b⟩ => ⟨a, Or.inl b⟩, fun ⟨a, b⟩ => ⟨a, b.elim id (fun ⟨_, e, _⟩ => ?_)⟩⟩
            rw [c1] at e
            exact absurd e.symm (d_ne1 (by omega))
        · rcases hW.2.2.2.1 k hk6 with e1 | ⟨t0, ht0, et0⟩
          · exact absurd e1 c1
          have m2 : ∀ i, i < 32 → (bt (m ||| (1 <<< (nI t0 &&& 31))) i = true ↔ ∃ j, j < k + 1 ∧ P 0 j = nI x ∧ P 1 j = nI i) := by
            intro i hi
            rw [b_or, Bool.or_eq_true, k2 i hi, step, b_bit t0 (by omega) hi, decide_eq_true_eq]
            refine or_congr Iff.rfl ⟨fun e => ⟨c0, by rw [e]; exact et0⟩, fun ⟨_, e⟩ => ?_⟩
            rw [et0, nI_eq (by omega) (by omega)] at e
            exact e.symm
          by_cases c3 : P 3 k = 0
          · have ct : aTaught P k = true := by unfold aTaught; simp [c1, c3]
            simp (disch := omega) only [c0, c1, ct, et0, decide_false, if_true, if_false, reduceIte, Bool.true_eq_false, d_pt]
            have en : ¬ nI t0 = -1 := d_ne1 (by omega)
            simp only [en, decide_false, if_true]
            refine ih (k + 1) n _ _ (by omega) (by omega) (fun c hc => by rw [d_up_ne hc]; exact k1 c hc) m2 (fun t ht i hi => ?_)
            by_cases e : t = t0
            · subst e
              rw [d_up_eq, b_and, Bool.and_eq_true, b_msI (by omega) hi, b_msI (by omega) hi, step]
              constructor
              · rintro ⟨⟨a1, a2⟩, _, a3⟩
                refine ⟨a1, Or.inr ⟨c0, et0, c3, ?_⟩⟩
                unfold gC aQual
                rw [eq, a2, a3]; rfl
              · rintro ⟨a1, ⟨j, hj, b0, b1, _⟩ | ⟨_, _, _, b4⟩⟩
                · exfalso
                  have := dWP_t hW.2.2 (show j < N 6 by omega) hk6 (by rw [b0, c0]) (by rw [b1]; exact d_ne1 (by omega)) (by rw [b1, et0])
                  omega
                · unfold gC aQual at b4
                  rw [eq, Bool.and_eq_true] at b4
                  exact ⟨⟨a1, b4.1⟩, a1, b4.2⟩
            · rw [d_up_nk (fun o => e o.2), k3 t ht i hi, step]
              refine ⟨fun ⟨a, b⟩ => ⟨a, Or.inl b⟩, fun ⟨a, b⟩ => ⟨a, b.elim id (fun ⟨_, e2, _⟩ => ?_)⟩⟩
              rw [et0, nI_eq (by omega) (by omega)] at e2
              exact absurd e2.symm e
          · have ct : aTaught P k = false := by unfold aTaught; simp [c3]
            have en : ¬ nI t0 = -1 := d_ne1 (by omega)
            simp only [c0, ct, et0, en, decide_false, if_true, if_false, reduceIte]
            refine ih (k + 1) n _ _ (by omega) (by omega) k1 m2 (fun t ht i hi => ?_)
            rw [k3 t ht i hi, step]
            refine ⟨fun ⟨a, b⟩ => ⟨a, Or.inl b⟩, fun ⟨a, b⟩ => ⟨a, b.elim id (fun ⟨_, _, e, _⟩ => absurd e c3)⟩⟩
      · simp only [c0, if_false]
        refine ih (k + 1) n _ _ (by omega) (by omega) k1 (fun i hi => ?_) (fun t ht i hi => ?_)
        · rw [k2 i hi, step]
          exact ⟨Or.inl, fun o => o.elim id (fun ⟨e, _⟩ => absurd e c0)⟩
        · rw [k3 t ht i hi, step]
          exact ⟨fun ⟨a, b⟩ => ⟨a, Or.inl b⟩, fun ⟨a, b⟩ => ⟨a, b.elim id (fun ⟨e, _⟩ => absurd e c0)⟩⟩
  refine key (N 6) 0 ga_fuel 0 s0 (by omega) (d_fuel (by omega)) h1 (fun i hi => ?_) (fun t ht i hi => ?_)
  · rw [b_0]
    exact ⟨fun e => (by cases e), fun ⟨j, hj, _⟩ => by omega⟩
  · rw [h2 t (by omega), b_0]
    exact ⟨fun e => (by cases e), fun ⟨_, j, hj, _⟩ => by omega⟩
end D25
