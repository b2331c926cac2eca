section D50
/-! ===== lessons ===== -/
variable {T : Nat → Nat} {L : Nat} {N : Nat → Nat} {Q : Nat → Nat → Int32} {s t : ga_M}
def tkn (N : Nat → Nat) (Q : Nat → Nat → Int32) (a : Nat) (x v : Int32) : Bool := decide (∃ k, k < N 6 ∧ (Q 7 k = x ∧ Q a k = v))
def dWN6 (N : Nat → Nat) : Prop := (1 ≤ N 0 ∧ N 0 ≤ 5) ∧ (1 ≤ N 1 ∧ N 1 ≤ 6) ∧ (1 ≤ N 2 ∧ N 2 ≤ 6) ∧ (1 ≤ N 3 ∧ N 3 ≤ 8) ∧ (1 ≤ N 4 ∧ N 4 ≤ 6) ∧ (1 ≤ N 5 ∧ N 5 ≤ 6) ∧ N 6 ≤ 40
theorem ex_step {k : Nat} {p : Nat → Prop} : (∃ j, j < k + 1 ∧ p j) ↔ ((∃ j, j < k ∧ p j) ∨ p k) := by
  constructor
  · rintro ⟨j, hj, hp⟩
    by_cases e : j = k
    · subst e; exact Or.inr hp
    · exact Or.inl ⟨j, by omega, hp⟩
  · rintro (⟨j, hj, hp⟩ | hp)
    · exact ⟨j, by omega, hp⟩
    · exact ⟨k, by omega, hp⟩
theorem c_taken_58 (h6 : N 6 ≤ 40) (hC : dC2 49 N Q s) (x v : Int32) : f_X7_isTakenAtFirst_49_58 x v s = some (aB (tkn N Q 5 x v)) := by
  rw [fe_X7_isTakenAtFirst_49_58]; unfold fb_X7_isTakenAtFirst_49_58
  have key : ∀ r k n, k + r = N 6 → r < n → (¬ ∃ j, j < k ∧ (Q 7 j = x ∧ Q 5 j = v)) → f_X7_isTakenAtFirst_49_58_h3 n x v (nI k) s = some (aB (tkn N Q 5 x v)) := by
    intro r
    induction r with
    | zero =>
      intro k n hk hn hb
      obtain ⟨n, rfl⟩ : ∃ j, n = j + 1 := ⟨n - 1, by omega⟩
      have : k = N 6 := by omega
      subst this
      rw [f_X7_isTakenAtFirst_49_58_h3, hC.1 6 (by omega), if_pos (nI_le (Nat.le_refl _) (by omega))]
      unfold tkn
      rw [decide_eq_false hb]; rfl
    | succ r ih =>
      intro k n hk hn hb
      obtain ⟨n, rfl⟩ : ∃ j, n = j + 1 := ⟨n - 1, by omega⟩
      have hk6 : k < N 6 := by omega
      have h7 : s 63 k = Q 7 k := hC.2 7 (by omega) (by omega) k (by unfold gov; simp; omega)
      have hA : s 59 k = Q 5 k := hC.2 5 (by omega) (by omega) k (by unfold gov; simp; omega)
      rw [f_X7_isTakenAtFirst_49_58_h3]
      dsimp only
      rw [hC.1 6 (by omega), if_neg (nI_ge hk6 (by omega)), d_p1, d_at (show k < 40 by omega) (by omega), d_at (show k < 40 by omega) (by omega), h7, hA]
      by_cases c1 : Q 7 k = x
      · rw [if_pos c1]
        by_cases c2 : Q 5 k = v
        · rw [if_pos c2]
          unfold tkn
          rw [decide_eq_true ⟨k, hk6, c1, c2⟩]; rfl
        · rw [if_neg c2]
          exact ih (k + 1) n (by omega) (by omega) (fun q => (ex_step.mp q).elim hb (fun q => c2 q.2))
      · rw [if_neg c1]
        exact ih (k + 1) n (by omega) (by omega) (fun q => (ex_step.mp q).elim hb (fun q => c1 q.1))
  exact key (N 6) 0 ga_fuel (by omega) (d_fuel (by omega)) (fun ⟨j, hj, _⟩ => by omega)
theorem c_taken_64 (h6 : N 6 ≤ 40) (hC : dC2 49 N Q s) (x v : Int32) : f_X7_isTakenAtFirst_49_64 x v s = some (aB (tkn N Q 8 x v)) := by
  rw [fe_X7_isTakenAtFirst_49_64]; unfold fb_X7_isTakenAtFirst_49_64
  have key : ∀ r k n, k + r = N 6 → r < n → (¬ ∃ j, j < k ∧ (Q 7 j = x ∧ Q 8 j = v)) → f_X7_isTakenAtFirst_49_64_h3 n x v (nI k) s = some (aB (tkn N Q 8 x v)) := by
    intro r
    induction r with
    | zero =>
      intro k n hk hn hb
      obtain ⟨n, rfl⟩ : ∃ j, n = j + 1 := ⟨n - 1, by omega⟩
      have : k = N 6 := by omega
      subst this
      rw [f_X7_isTakenAtFirst_49_64_h3, hC.1 6 (by omega), if_pos (nI_le (Nat.le_refl _) (by omega))]
      unfold tkn
      rw [decide_eq_false hb]; rfl
    | succ r ih =>
      intro k n hk hn hb
      obtain ⟨n, rfl⟩ : ∃ j, n = j + 1 := ⟨n - 1, by omega⟩
      have hk6 : k < N 6 := by omega
      have h7 : s 63 k = Q 7 k := hC.2 7 (by omega) (by omega) k (by unfold gov; simp; omega)
      have hA : s 65 k = Q 8 k := hC.2 8 (by omega) (by omega) k (by unfold gov; simp; omega)
      rw [f_X7_isTakenAtFirst_49_64_h3]
      dsimp only
      rw [hC.1 6 (by omega), if_neg (nI_ge hk6 (by omega)), d_p1, d_at (show k < 40 by omega) (by omega), d_at (show k < 40 by omega) (by omega), h7, hA]
      by_cases c1 : Q 7 k = x
      · rw [if_pos c1]
        by_cases c2 : Q 8 k = v
        · rw [if_pos c2]
          unfold tkn
          rw [decide_eq_true ⟨k, hk6, c1, c2⟩]; rfl
        · rw [if_neg c2]
          exact ih (k + 1) n (by omega) (by omega) (fun q => (ex_step.mp q).elim hb (fun q => c2 q.2))
      · rw [if_neg c1]
        exact ih (k + 1) n (by omega) (by omega) (fun q => (ex_step.mp q).elim hb (fun q => c1 q.1))
  exact key (N 6) 0 ga_fuel (by omega) (d_fuel (by omega)) (fun ⟨j, hj, _⟩ => by omega)
theorem c_taken_66 (h6 : N 6 ≤ 40) (hC : dC2 49 N Q s) (x v : Int32) : f_X7_isTakenAtFirst_49_66 x v s = some (aB (tkn N Q 9 x v)) := by
  rw [fe_X7_isTakenAtFirst_49_66]; unfold fb_X7_isTakenAtFirst_49_66
  have key : ∀ r k n, k + r = N 6 → r < n → (¬ ∃ j, j < k ∧ (Q 7 j = x ∧ Q 9 j = v)) → f_X7_isTakenAtFirst_49_66_h3 n x v (nI k) s = some (aB (tkn N Q 9 x v)) := by
    intro r
    induction r with
    | zero =>
      intro k n hk hn hb
      obtain ⟨n, rfl⟩ : ∃ j, n = j + 1 := ⟨n - 1, by omega⟩
      have : k = N 6 := by omega
      subst this
      rw [f_X7_isTakenAtFirst_49_66_h3, hC.1 6 (by omega), if_pos (nI_le (Nat.le_refl _) (by omega))]
      unfold tkn
      rw [decide_eq_false hb]; rfl
    | succ r ih =>
      intro k n hk hn hb
      obtain ⟨n, rfl⟩ : ∃ j, n = j + 1 := ⟨n - 1, by omega⟩
      have hk6 : k < N 6 := by omega
      have h7 : s 63 k = Q 7 k := hC.2 7 (by omega) (by omega) k (by unfold gov; simp; omega)
      have hA : s 67 k = Q 9 k := hC.2 9 (by omega) (by omega) k (by unfold gov; simp; omega)
      rw [f_X7_isTakenAtFirst_49_66_h3]
      dsimp only
      rw [hC.1 6 (by omega), if_neg (nI_ge hk6 (by omega)), d_p1, d_at (show k < 40 by omega) (by omega), d_at (show k < 40 by omega) (by omega), h7, hA]
      by_cases c1 : Q 7 k = x
      · rw [if_pos c1]
        by_cases c2 : Q 9 k = v
        · rw [if_pos c2]
          unfold tkn
          rw [decide_eq_true ⟨k, hk6, c1, c2⟩]; rfl
        · rw [if_neg c2]
          exact ih (k + 1) n (by omega) (by omega) (fun q => (ex_step.mp q).elim hb (fun q => c2 q.2))
      · rw [if_neg c1]
        exact ih (k + 1) n (by omega) (by omega) (fun q => (ex_step.mp q).elim hb (fun q => c1 q.1))
  exact key (N 6) 0 ga_fuel (by omega) (d_fuel (by omega)) (fun ⟨j, hj, _⟩ => by omega)
/-! what the reference does behind an error -/
theorem dBd_6 (h : dWN6 N) : dBd N := ⟨h.2.2.1.2, h.2.2.2.1.2, h.2.2.2.2.1.2, h.2.2.2.2.2.2⟩
theorem dWQ_add (h : dWQ N Q) {x g u v r : Nat} (hx : x < dSl N) (hu : u < N 2) (hv : v < N 3) (hr : r < N 4) (ht : tkn N Q 8 (nI x) (nI v) = false) (hr2 : tkn N Q 9 (nI x) (nI r) = false) : dWQ (nU N 6 (N 6 + 1)) (qL Q (N 6) (nI x) (nI g) (nI u) (nI v) (nI r)) := by
  obtain ⟨h0, h1, h2, h3, h4, h5⟩ := h
  unfold tkn at ht hr2
  rw [decide_eq_false_iff_not] at ht hr2
  have e6 : ∀ k, qL Q (N 6) (nI x) (nI g) (nI u) (nI v) (nI r) 6 k = if k = N 6 then nI u else Q 6 k := fun k => by unfold qL pS; simp
  have e7 : ∀ k, qL Q (N 6) (nI x) (nI g) (nI u) (nI v) (nI r) 7 k = if k = N 6 then nI x else Q 7 k := fun k => by unfold qL pS; simp
  have e8 : ∀ k, qL Q (N 6) (nI x) (nI g) (nI u) (nI v) (nI r) 8 k = if k = N 6 then nI v else Q 8 k := fun k => by unfold qL pS; simp
  have e9 : ∀ k, qL Q (N 6) (nI x) (nI g) (nI u) (nI v) (nI r) 9 k = if k = N 6 then nI r else Q 9 k := fun k => by unfold qL pS; simp
  have n6 : nU N 6 (N 6 + 1) 6 = N 6 + 1 := nU_eq _ _ _
  have nS : dSl (nU N 6 (N 6 + 1)) = dSl N := by unfold dSl; rw [nU_ne (by omega), nU_ne (by omega)]
  unfold dWQ
  rw [n6, nS, nU_ne (show 2 ≠ 6 by omega), nU_ne (show 3 ≠ 6 by omega), nU_ne (show 4 ≠ 6 by omega)]
  refine ⟨fun k hk => ?_, fun k hk => ?_, fun k hk => ?_, fun k hk => ?_, fun i k hi hk hik e => ?_, fun i k hi hk hik e => ?_⟩
  · rw [e6]; by_cases c : k = N 6
    · rw [if_pos c]; exact ⟨u, hu, rfl⟩
    · rw [if_neg c]; exact h0 k (by omega)
  · rw [e7]; by_cases c : k = N 6
    · rw [if_pos c]; exact ⟨x, hx, rfl⟩
    · rw [if_neg c]; exact h1 k (by omega)
  · rw [e8]; by_cases c : k = N 6
    · rw [if_pos c]; exact ⟨v, hv, rfl⟩
    · rw [if_neg c]; exact h2 k (by omega)
  · rw [e9]; by_cases c : k = N 6
    · rw [if_pos c]; exact ⟨r, hr, rfl⟩
    · rw [if_neg c]; exact h3 k (by omega)
  · rw [e7, e7] at e
    rw [e8, e8]
    by_cases c1 : i = N 6
    · rw [if_pos c1] at e ⊢
      rw [if_neg (show ¬ k = N 6 by omega)] at e ⊢
      exact fun q => ht ⟨k, by omega, e.symm, q.symm⟩
    · rw [if_neg c1] at e ⊢
      by_cases c2 : k = N 6
      · rw [if_pos c2] at e ⊢; exact fun q => ht ⟨i, by omega, e, q⟩
      · rw [if_neg c2] at e ⊢; exact h4 i k (by omega) (by omega) hik e
  · rw [e7, e7] at e
    rw [e9, e9]
    by_cases c1 : i = N 6
    · rw [if_pos c1] at e ⊢
      rw [if_neg (show ¬ k = N 6 by omega)] at e ⊢
      exact fun q => hr2 ⟨k, by omega, e.symm, q.symm⟩
    · rw [if_neg c1] at e ⊢
      by_cases c2 : k = N 6
      · rw [if_pos c2] at e ⊢; exact fun q => hr2 ⟨i, by omega, e, q⟩
      · rw [if_neg c2] at e ⊢; exact h5 i k (by omega) (by omega) hik e
theorem if_c {α : Type} {b : Int32} {f : ga_M → α} {t1 t2 : ga_M} : (if b = 0 then f t1 else f t2) = f (if b = 0 then t1 else t2) := by split <;> rfl
end D50
