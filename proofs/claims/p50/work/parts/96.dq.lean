section D26
/-! ===== the class's chain: the least loaded, those before, the lowest, the successors ===== -/
variable {N : Nat → Nat} {Q P : Nat → Nat → Int32} {s : ga_M}
def gEl (N : Nat → Nat) (Q P : Nat → Nat → Int32) (a : Int32) (t : Nat) : Prop := bt a t = true ∧ gLd N Q P t < Q 2 t
theorem dc_least (hN : dWN N) (h : dC N Q P s) (a : Int32) : ∃ r, f_X0_leastLoaded a s = some r ∧ ((r = 0 ∧ ∀ t, t < N 3 → ¬ gEl N Q P a t) ∨ (r ≠ 0 ∧ ∃ w, (∃ e, e < N 3 ∧ gEl N Q P a e ∧ gLd N Q P e = w) ∧ (∀ t, t < N 3 → gEl N Q P a t → w ≤ gLd N Q P t) ∧ ∀ i, i < 32 → (bt r i = true ↔ i < N 3 ∧ gEl N Q P a i ∧ gLd N Q P i = w))) := by
  have hB := dWN_b hN
  rw [fe_X0_leastLoaded]; unfold fb_X0_leastLoaded
  have key : ∀ m k n b w, k + m = N 3 → m < n → ((b = 0 ∧ ∀ t, t < k → ¬ gEl N Q P a t) ∨ (b ≠ 0 ∧ (∃ e, e < k ∧ gEl N Q P a e ∧ gLd N Q P e = w) ∧ (∀ t, t < k → gEl N Q P a t → w ≤ gLd N Q P t) ∧ ∀ i, i < 32 → (bt b i = true ↔ i < k ∧ gEl N Q P a i ∧ gLd N Q P i = w))) →
      ∃ r, f_X0_leastLoaded_h7 n a b w (nI k) s = some r ∧ ((r = 0 ∧ ∀ t, t < N 3 → ¬ gEl N Q P a t) ∨ (r ≠ 0 ∧ ∃ w, (∃ e, e < N 3 ∧ gEl N Q P a e ∧ gLd N Q P e = w) ∧ (∀ t, t < N 3 → gEl N Q P a t → w ≤ gLd N Q P t) ∧ ∀ i, i < 32 → (bt r i = true ↔ i < N 3 ∧ gEl N Q P a i ∧ gLd N Q P i = w))) := by
    intro m
    induction m with
    | zero =>
      intro k n b w hk hn hI
      obtain ⟨n, rfl⟩ : ∃ j, n = j + 1 := ⟨n - 1, by omega⟩
      have : k = N 3 := by omega
      subst this
      unfold f_X0_leastLoaded_h7
      rw [dcN h (by decide), if_pos (nI_le (Nat.le_refl _) (by omega))]
      rcases hI with h1 | ⟨h1, h2⟩
      · exact ⟨b, rfl, Or.inl h1⟩
      · exact ⟨b, rfl, Or.inr ⟨h1, w, h2⟩⟩
    | succ m ih =>
      intro k n b w hk hn hI
      obtain ⟨n, rfl⟩ : ∃ j, n = j + 1 := ⟨n - 1, by omega⟩
      unfold f_X0_leastLoaded_h7
      simp (disch := omega) only [dcN h, dc3 h, dc5 h, dc7 h, dc9 h, dc11 h, dc13 h, dc15 h, dc17 h, dc19 h, dc22 h, dc24 h, dc26 h, dc28 h, dc30 h, dc_hasBit (show k < 31 by omega), b_hb _ (show k < 32 by omega), dc_loadOf hN h, d_a0, d_a1, d_a7, d_a13, d_a21, d_a29, d_a35, d_a40, d_a75, d_a80, d_a115, d_a120, d_a155, d_a160, d_a195, d_r1, d_nI0, d_ix, d_cl, d_le, d_lt, d_eq, d_at, d_pt, if_false, if_true, Int32.add_zero, Option.bind_some, reduceIte, Nat.zero_add, Bool.and_eq_true, decide_eq_true_eq, decide_true, decide_false, Bool.and_true, Bool.true_and, Bool.false_and, Bool.and_false, Bool.true_eq_false, Bool.false_eq_true, false_and, and_false, true_and, and_true, d_n0, d_lef, false_or, or_false, or_self, false_and, not_true_eq_false, not_false_eq_true, ne_eq, not_true, not_false_iff, aB_0, aB_1]
      -- one that isn't taken
      have no : ¬ gEl N Q P a k → ∃ r, f_X0_leastLoaded_h7 n a b w (nI (k + 1)) s = some r ∧ ((r = 0 ∧ ∀ t, t < N 3 → ¬ gEl N Q P a t) ∨ (r ≠ 0 ∧ ∃ w, (∃ e, e < N 3 ∧ gEl N Q P a e ∧ gLd N Q P e = w) ∧ (∀ t, t < N 3 → gEl N Q P a t → w ≤ gLd N Q P t) ∧ ∀ i, i < 32 → (bt r i = true ↔ i < N 3 ∧ gEl N Q P a i ∧ gLd N Q P i = w))) := by
        intro hne
        have lt : ∀ t, t < k + 1 → gEl N Q P a t → t < k := fun t ht he => by
          by_cases e : t = k
          · subst e; exact absurd he hne
          · omega
        refine ih (k + 1) n b w (by omega) (by omega) ?_
        rcases hI with ⟨h1, h2⟩ | ⟨h1, ⟨e, he, h2⟩, h3, h4⟩
        · exact Or.inl ⟨h1, fun t ht he => h2 t (lt t ht he) he⟩
        · refine Or.inr ⟨h1, ⟨e, by omega, h2⟩, fun t ht he => h3 t (lt t ht he) he, fun i hi => ?_⟩
          rw [h4 i hi]
          exact ⟨fun ⟨a1, a2⟩ => ⟨by omega, a2⟩, fun ⟨a1, a2⟩ => ⟨lt i a1 a2.1, a2⟩⟩
      -- a new least one
      have new : gEl N Q P a k → (∀ t, t < k → gEl N Q P a t → gLd N Q P k < gLd N Q P t) → ∃ r, f_X0_leastLoaded_h7 n a (1 <<< (nI k &&& 31)) (aLoad N Q P (nI k)) (nI (k + 1)) s = some r ∧ ((r = 0 ∧ ∀ t, t < N 3 → ¬ gEl N Q P a t) ∨ (r ≠ 0 ∧ ∃ w, (∃ e, e < N 3 ∧ gEl N Q P a e ∧ gLd N Q P e = w) ∧ (∀ t, t < N 3 → gEl N Q P a t → w ≤ gLd N Q P t) ∧ ∀ i, i < 32 → (bt r i = true ↔ i < N 3 ∧ gEl N Q P a i ∧ gLd N Q P i = w))) := by
        intro he hlt
        refine ih (k + 1) n _ _ (by omega) (by omega) (Or.inr ⟨fun e => ?_, ⟨k, by omega, he, rfl⟩, fun t ht hte => ?_, fun i hi => ?_⟩)
        · have := b_bit k (by omega) (i := k) (by omega)
          rw [e, b_0, decide_eq_true rfl] at this
          cases this
        · by_cases e : t = k
          · subst e; exact Int32.le_refl _
          · have := hlt t (by omega) hte
            rw [Int32.lt_iff_toInt_lt] at this
            rw [Int32.le_iff_toInt_le]
            show (gLd N Q P k).toInt ≤ _
            omega
        · rw [b_bit k (by omega) hi, decide_eq_true_eq]
          constructor
          · rintro rfl; exact ⟨by omega, he, rfl⟩
          · rintro ⟨a1, a2, a3⟩
            by_cases e : i = k
            · exact e
            · have := hlt i (by omega) a2
              rw [a3] at this
              exact (Int32.lt_irrefl this).elim
      by_cases c1 : bt a k = true
      · have c1' : ¬ bt a k = false := by rw [c1]; decide
        rw [if_neg c1']
        by_cases c2 : Q 2 k ≤ aLoad N Q P (nI k)
        · rw [if_pos c2]
          exact no (fun e => Int32.not_le.mpr e.2 c2)
        · rw [if_neg c2]
          have he : gEl N Q P a k := ⟨c1, Int32.not_le.mp c2⟩
          by_cases c3 : b = 0
          · rw [if_pos c3, if_pos c3]
            refine new he (fun t ht hte => ?_)
            rcases hI with ⟨_, h2⟩ | ⟨h1, _⟩
            · exact absurd hte (h2 t ht)
            · exact absurd c3 h1
          · rw [if_neg c3]
            rcases hI with ⟨h1, _⟩ | ⟨h1, ⟨e, he1, he2, he3⟩, h3, h4⟩
            · exact absurd h1 c3
            by_cases c4 : w < aLoad N Q P (nI k)
            · rw [if_pos c4]
              refine ih (k + 1) n b w (by omega) (by omega) (Or.inr ⟨h1, ⟨e, by omega, he2, he3⟩, fun t ht hte => ?_, fun i hi => ?_⟩)
              · by_cases et : t = k
                · subst et; exact Int32.le_of_lt c4
                · exact h3 t (by omega) hte
              · rw [h4 i hi]
                refine ⟨fun ⟨a1, a2⟩ => ⟨by omega, a2⟩, fun ⟨a1, a2, a3⟩ => ⟨?_, a2, a3⟩⟩
                by_cases et : i = k
                · subst et
                  rw [← a3] at c4
                  exact (Int32.lt_irrefl c4).elim
                · omega
            · rw [if_neg c4, if_neg c3]
              by_cases c5 : aLoad N Q P (nI k) = w
              · rw [if_pos c5]
                refine ih (k + 1) n _ _ (by omega) (by omega) (Or.inr ⟨fun eb => ?_, ⟨k, by omega, he, rfl⟩, fun t ht hte => ?_, fun i hi => ?_⟩)
                · have := b_zero.mp eb k (by omega)
                  rw [b_or, b_bit k (by omega) (by omega), decide_eq_true rfl, Bool.or_true] at this
                  cases this
                · rw [c5]
                  by_cases et : t = k
                  · subst et; rw [← c5]; exact Int32.le_refl _
                  · exact h3 t (by omega) hte
                · rw [b_or, Bool.or_eq_true, h4 i hi, b_bit k (by omega) hi, decide_eq_true_eq, c5]
                  constructor
                  · rintro (⟨a1, a2⟩ | rfl)
                    · exact ⟨by omega, a2⟩
                    · exact ⟨by omega, he, c5⟩
                  · rintro ⟨a1, a2⟩
                    by_cases et : i = k
                    · exact Or.inr et
                    · exact Or.inl ⟨by omega, a2⟩
              · rw [if_neg c5]
                refine new he (fun t ht hte => ?_)
                have h5 := h3 t ht hte
                rw [Int32.lt_iff_toInt_lt] at c4 ⊢
                rw [Int32.le_iff_toInt_le] at h5
                have h6 : (aLoad N Q P (nI k)).toInt ≠ w.toInt := fun e => c5 (Int32.toInt_inj.mp e)
                show (aLoad N Q P (nI k)).toInt < _
                omega
      · rw [if_pos (by simpa using c1)]
        exact no (fun e => c1 e.1)
  exact key (N 3) 0 ga_fuel 0 0 (by omega) (d_fuel (by omega)) (Or.inl ⟨rfl, fun t ht => by omega⟩)
theorem dc_succs (hN : dWN N) (h : dC N Q P s) (a : Int32) : ∃ r, f_X0_successorsOf a s = some r ∧ ∀ i, i < 32 → (bt r i = true ↔ ∃ t, t < N 3 ∧ bt a t = true ∧ bt (s 34 t) i = true) := by
  have hB := dWN_b hN
  rw [fe_X0_successorsOf]; unfold fb_X0_successorsOf
  have key : ∀ m k n b, k + m = N 3 → m < n → (∀ i, i < 32 → (bt b i = true ↔ ∃ t, t < k ∧ bt a t = true ∧ bt (s 34 t) i = true)) →
      ∃ r, f_X0_successorsOf_h4 n a b (nI k) s = some r ∧ ∀ i, i < 32 → (bt r i = true ↔ ∃ t, t < N 3 ∧ bt a t = true ∧ bt (s 34 t) i = true) := by
    intro m
    induction m with
    | zero =>
      intro k n b hk hn hI
      obtain ⟨n, rfl⟩ : ∃ j, n = j + 1 := ⟨n - 1, by omega⟩
      have : k = N 3 := by omega
      subst this
      unfold f_X0_successorsOf_h4
      rw [dcN h (by decide), if_pos (nI_le (Nat.le_refl _) (by omega))]
      exact ⟨b, rfl, hI⟩
    | succ m ih =>
      intro k n b hk hn hI
      obtain ⟨n, rfl⟩ : ∃ j, n = j + 1 := ⟨n - 1, by omega⟩
      unfold f_X0_successorsOf_h4
      simp (disch := omega) only [dcN h, dc3 h, dc5 h, dc7 h, dc9 h, dc11 h, dc13 h, dc15 h, dc17 h, dc19 h, dc22 h, dc24 h, dc26 h, dc28 h, dc30 h, dc_hasBit (show k < 31 by omega), b_hb _ (show k < 32 by omega), d_a0, d_a1, d_a7, d_a13, d_a21, d_a29, d_a35, d_a40, d_a75, d_a80, d_a115, d_a120, d_a155, d_a160, d_a195, d_r1, d_nI0, d_ix, d_cl, d_le, d_lt, d_eq, d_at, d_pt, if_false, if_true, Int32.add_zero, Option.bind_some, reduceIte, Nat.zero_add, Bool.and_eq_true, decide_eq_true_eq, decide_true, decide_false, Bool.and_true, Bool.true_and, Bool.false_and, Bool.and_false, Bool.true_eq_false, Bool.false_eq_true, false_and, and_false, true_and, and_true, d_n0, d_lef, false_or, or_false, or_self, false_and, not_true_eq_false, not_false_eq_true, ne_eq, not_true, not_false_iff, aB_0, aB_1]
      have step : ∀ {p : Nat → Prop}, (∃ j, j < k + 1 ∧ p j) ↔ ((∃ j, j < k ∧ p j) ∨ p k) := by
        intro p
        constructor
        · rintro ⟨j, hj, hp⟩
          by_cases e : j = k
          · subst e; exact Or.inr hp
          · exact Or.inl ⟨j, by omega, hp⟩
        · rintro (⟨j, hj, hp⟩ | hp)
          · exact ⟨j, by omega, hp⟩
          · exact ⟨k, by omega, hp⟩
      by_cases c1 : bt a k = true
      · rw [if_neg (by rw [c1]; decide)]
        refine ih (k + 1) n _ (by omega) (by omega) (fun i hi => ?_)
        rw [b_or, Bool.or_eq_true, hI i hi, step]
        exact or_congr Iff.rfl ⟨fun e => ⟨c1, e⟩, fun e => e.2⟩
      · rw [if_pos (by simpa using c1)]
        refine ih (k + 1) n _ (by omega) (by omega) (fun i hi => ?_)
        rw [hI i hi, step]
        exact ⟨Or.inl, fun o => o.elim id (fun e => absurd e.1 c1)⟩
  exact key (N 3) 0 ga_fuel 0 (by omega) (d_fuel (by omega)) (fun i hi => by
    rw [b_0]
    exact ⟨fun e => (by cases e), fun ⟨t, ht, _⟩ => (by omega)⟩)
theorem dc_before (hN : dWN N) (h : dC N Q P s) (nx a : Int32) : f_X0_thoseBefore nx a s = some (dMs (fun t => bt a t && !decide (s 34 t &&& nx = 0)) (N 3)) := by
  have hB := dWN_b hN
  rw [fe_X0_thoseBefore]; unfold fb_X0_thoseBefore
  refine (d_fold0 (F := fun n k b => f_X0_thoseBefore_h5 n nx a b (nI k) s) (f := dMf (fun t => bt a t && !decide (s 34 t &&& nx = 0))) (g := some) (N := N 3) (by omega) (fun n k b hk => ?_) (fun n b => ?_) 0)
  · simp (disch := omega) only [f_X0_thoseBefore_h5, dcN h, dc3 h, dc5 h, dc7 h, dc9 h, dc11 h, dc13 h, dc15 h, dc17 h, dc19 h, dc22 h, dc24 h, dc26 h, dc28 h, dc30 h, dc_hasBit (show k < 31 by omega), b_hb _ (show k < 32 by omega), d_a0, d_a1, d_a7, d_a13, d_a21, d_a29, d_a35, d_a40, d_a75, d_a80, d_a115, d_a120, d_a155, d_a160, d_a195, d_r1, d_nI0, d_ix, d_cl, d_le, d_lt, d_eq, d_at, d_pt, if_false, if_true, Int32.add_zero, Option.bind_some, reduceIte, Nat.zero_add, Bool.and_eq_true, decide_eq_true_eq, decide_true, decide_false, Bool.and_true, Bool.true_and, Bool.false_and, Bool.and_false, Bool.true_eq_false, Bool.false_eq_true, false_and, and_false, true_and, and_true, d_n0, d_lef, false_or, or_false, or_self, false_and, not_true_eq_false, not_false_eq_true, ne_eq, not_true, not_false_iff, aB_0, aB_1]
    cases c1 : bt a k <;> by_cases c2 : s 34 k &&& nx = 0 <;> simp [c1, c2, dMf]
  · simp (disch := omega) only [f_X0_thoseBefore_h5, dcN h, dc3 h, dc5 h, dc7 h, dc9 h, dc11 h, dc13 h, dc15 h, dc17 h, dc19 h, dc22 h, dc24 h, dc26 h, dc28 h, dc30 h]
    rw [if_pos (nI_le (Nat.le_refl _) (by omega))]
theorem dc_lowest (a : Int32) : f_X0_lowest a s = some (dFind (fun t => bt a t) 8) := by
  rw [fe_X0_lowest]; unfold fb_X0_lowest
  refine d_find0 (F := fun n k => f_X0_lowest_h2 n a (nI k) s) (N := 8) (by omega) (fun n k hk => ?_) (fun n => ?_)
  · have e8 : ¬ (8 : Int32) ≤ nI k := nI_ge (b := 8) hk (by omega)
    simp (disch := omega) only [f_X0_lowest_h2, e8, dc_hasBit (show k < 31 by omega), b_hb _ (show k < 32 by omega), d_a0, d_a1, d_a7, d_a13, d_a21, d_a29, d_a35, d_a40, d_a75, d_a80, d_a115, d_a120, d_a155, d_a160, d_a195, d_r1, d_nI0, d_ix, d_cl, d_le, d_lt, d_eq, d_at, d_pt, if_false, if_true, Int32.add_zero, Option.bind_some, reduceIte, Nat.zero_add, Bool.and_eq_true, decide_eq_true_eq, decide_true, decide_false, Bool.and_true, Bool.true_and, Bool.false_and, Bool.and_false, Bool.true_eq_false, Bool.false_eq_true, false_and, and_false, true_and, and_true, d_n0, d_lef, false_or, or_false, or_self, false_and, not_true_eq_false, not_false_eq_true, ne_eq, not_true, not_false_iff, aB_0, aB_1]
    cases c1 : bt a k <;> simp [c1]
  · unfold f_X0_lowest_h2
    rw [if_pos (by decide)]
end D26
