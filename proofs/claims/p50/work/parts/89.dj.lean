section D19
variable {N : Nat → Nat} {Q P : Nat → Nat → Int32} {s : ga_M}
theorem d_what2 (x : Int32) : (x = 0 ∨ x = 1) ∨ ∀ j, j < 2 → x ≠ nI j := by
  rcases d_in x 2 (by omega) with ⟨j, hj, rfl⟩ | ⟨_, h⟩
  · left
    rcases (show j = 0 ∨ j = 1 by omega) with rfl | rfl <;> decide
  · exact Or.inr h
theorem d_what3 (x : Int32) : (x = 0 ∨ x = 1 ∨ x = 2) ∨ ∀ j, j < 3 → x ≠ nI j := by
  rcases d_in x 3 (by omega) with ⟨j, hj, rfl⟩ | ⟨_, h⟩
  · left
    rcases (show j = 0 ∨ j = 1 ∨ j = 2 by omega) with rfl | rfl | rfl <;> decide
  · exact Or.inr h
theorem d_what4 (x : Int32) : (x = 0 ∨ x = 1 ∨ x = 2 ∨ x = 3) ∨ ∀ j, j < 4 → x ≠ nI j := by
  rcases d_in x 4 (by omega) with ⟨j, hj, rfl⟩ | ⟨_, h⟩
  · left
    rcases (show j = 0 ∨ j = 1 ∨ j = 2 ∨ j = 3 by omega) with rfl | rfl | rfl | rfl <;> decide
  · exact Or.inr h
theorem d_what7 (x : Int32) : (x = 0 ∨ x = 1 ∨ x = 2 ∨ x = 3 ∨ x = 4 ∨ x = 5 ∨ x = 6) ∨ ∀ j, j < 7 → x ≠ nI j := by
  rcases d_in x 7 (by omega) with ⟨j, hj, rfl⟩ | ⟨_, h⟩
  · left
    rcases (show j = 0 ∨ j = 1 ∨ j = 2 ∨ j = 3 ∨ j = 4 ∨ j = 5 ∨ j = 6 by omega) with rfl | rfl | rfl | rfl | rfl | rfl | rfl <;> decide
  · exact Or.inr h
theorem d_what10 (x : Int32) : (x = 0 ∨ x = 1 ∨ x = 2 ∨ x = 3 ∨ x = 4 ∨ x = 5 ∨ x = 6 ∨ x = 7 ∨ x = 8 ∨ x = 9) ∨ ∀ j, j < 10 → x ≠ nI j := by
  rcases d_in x 10 (by omega) with ⟨j, hj, rfl⟩ | ⟨_, h⟩
  · left
    rcases (show j = 0 ∨ j = 1 ∨ j = 2 ∨ j = 3 ∨ j = 4 ∨ j = 5 ∨ j = 6 ∨ j = 7 ∨ j = 8 ∨ j = 9 by omega) with rfl | rfl | rfl | rfl | rfl | rfl | rfl | rfl | rfl | rfl <;> decide
  · exact Or.inr h
theorem d_le3 (x : Int32) {n : Nat} (hn : n = 4) : (if x < 0 then (0 : Int32) else if x ≤ 3 then 1 else 0) = aB (decide (∃ j, j < n ∧ x = nI j)) := by
  subst hn
  rw [← d_has 4 (by omega) x]
  by_cases c : x < 0
  · rw [if_pos c, if_pos c]
  · rw [if_neg c, if_neg c]
    by_cases c2 : x ≤ 3
    · rw [if_pos c2, if_neg (fun h => by
        rw [Int32.le_iff_toInt_le] at c2 h
        have h1 : (nI 4).toInt = 4 := rfl
        have h2 : (3 : Int32).toInt = 3 := rfl
        omega)]
    · rw [if_neg c2, if_pos (by
        rw [Int32.le_iff_toInt_le] at c2 ⊢
        have h1 : (nI 4).toInt = 4 := rfl
        have h2 : (3 : Int32).toInt = 3 := rfl
        omega)]
/-- the one before which so many stand -/
def dNth (p : Nat → Bool) : Nat → Nat → Int32 → Int32
  | 0, _, _ => -1
  | m + 1, k, a => if p k = true then (if a = 0 then nI k else dNth p m (k + 1) (a + (-1))) else dNth p m (k + 1) a
theorem d_i4 (a b : Int32) : (b = a) = (a - b = 0) := by
  apply propext
  constructor
  · rintro rfl; simp
  · intro h
    apply Int32.toBitVec_inj.mp
    have := congrArg Int32.toBitVec h
    rw [Int32.toBitVec_sub, show Int32.toBitVec 0 = 0#32 from rfl] at this
    bv_omega
theorem d_i5 (a b : Int32) : a - (b + 1) = (a - b) + (-1) := by
  apply Int32.toBitVec_inj.mp; simp only [Int32.toBitVec_sub, Int32.toBitVec_add, Int32.toBitVec_neg]; bv_omega
theorem d_nthC {F : Nat → Int32 → Nat → Option (Int32 ⊕ Nat)} {p : Nat → Bool} {N e : Nat} {a : Int32} (hN : N < 2147483648)
    (hs : ∀ n b k, k < N → F (n + 1) b k = if p k = true then (if b = a then some (.inl (nI k)) else F n (b + 1) (k + 1)) else F n b (k + 1)) (he : ∀ n b, F (n + 1) b N = some (.inr e)) :
    ∀ m k n b, k + m = N → m < n → F n b k = some (if dNth p m k (a - b) = -1 then .inr e else .inl (dNth p m k (a - b))) := by
  intro m
  induction m with
  | zero =>
    intro k n b hk hn
    obtain ⟨n, rfl⟩ : ∃ j, n = j + 1 := ⟨n - 1, by omega⟩
    have : k = N := by omega
    subst this
    exact he n b
  | succ m ih =>
    intro k n b hk hn
    obtain ⟨n, rfl⟩ : ∃ j, n = j + 1 := ⟨n - 1, by omega⟩
    rw [hs n b k (by omega)]
    by_cases hp : p k = true
    · rw [if_pos hp, dNth, if_pos hp]
      by_cases c : a - b = 0
      · have c2 : b = a := by rw [d_i4]; exact c
        rw [if_pos c, if_pos c2, if_neg (d_ne1 (by omega))]
      · have c2 : ¬ b = a := by rw [d_i4]; exact c
        rw [if_neg c, if_neg c2, ← d_i5]
        exact ih (k + 1) n _ (by omega) (by omega)
    · rw [if_neg hp, dNth, if_neg hp]
      exact ih (k + 1) n _ (by omega) (by omega)
theorem d_nthM {F : Nat → Int32 → Nat → Option Int32} {p : Nat → Bool} {N : Nat}
    (hs : ∀ n b k, k < N → F (n + 1) b k = if p k = true then (if b = 0 then some (nI k) else F n (b + (-1)) (k + 1)) else F n b (k + 1)) (he : ∀ n b, F (n + 1) b N = some (-1)) :
    ∀ m k n b, k + m = N → m < n → F n b k = some (dNth p m k b) := by
  intro m
  induction m with
  | zero =>
    intro k n b hk hn
    obtain ⟨n, rfl⟩ : ∃ j, n = j + 1 := ⟨n - 1, by omega⟩
    have : k = N := by omega
    subst this
    exact he n b
  | succ m ih =>
    intro k n b hk hn
    obtain ⟨n, rfl⟩ : ∃ j, n = j + 1 := ⟨n - 1, by omega⟩
    rw [hs n b k (by omega)]
    by_cases hp : p k = true
    · rw [if_pos hp, dNth, if_pos hp]
      by_cases c : b = 0
      · rw [if_pos c, if_pos c]
      · rw [if_neg c, if_neg c]
        exact ih (k + 1) n _ (by omega) (by omega)
    · rw [if_neg hp, dNth, if_neg hp]
      exact ih (k + 1) n _ (by omega) (by omega)
end D19
