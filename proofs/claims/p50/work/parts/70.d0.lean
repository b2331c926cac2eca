section D0
/-! ===== THE PURE PART: the class and the reference as functions of one memory; tools ===== -/
theorem d_fuel {n : Nat} (h : n < 2147483648) : n < ga_fuel := by rw [ga_fuel_eq]; exact h
/-- a loop that counts up, with an answer of one form -/
theorem d_loop {α β : Type} {F : Nat → Nat → β → Option α} {N : Nat} {I : Nat → β → Prop} {Q : α → Prop}
    (hs : ∀ n k x, k < N → I k x → (∃ r, F (n + 1) k x = some r ∧ Q r) ∨ ∃ y, I (k + 1) y ∧ F (n + 1) k x = F n (k + 1) y)
    (he : ∀ n x, I N x → ∃ r, F (n + 1) N x = some r ∧ Q r) : ∀ (n k : Nat) (x : β), N - k < n → k ≤ N → I k x → ∃ r, F n k x = some r ∧ Q r := by
  intro n
  induction n with
  | zero => intro k x h; omega
  | succ n ih =>
    intro k x h hk hI
    by_cases hkN : k = N
    · subst hkN; exact he n x hI
    · rcases hs n k x (by omega) hI with h1 | ⟨y, h1, h2⟩
      · exact h1
      · rw [h2]; exact ih (k + 1) y (by omega) (by omega) h1
/-- a search: the first of the places k, k+1, .. that p holds of -/
def dR (p : Nat → Bool) : Nat → Nat → Int32
  | 0, _ => -1
  | m + 1, k => if p k = true then nI k else dR p m (k + 1)
def dFind (p : Nat → Bool) (N : Nat) : Int32 := dR p N 0
theorem d_find {F : Nat → Nat → Option Int32} {p : Nat → Bool} {N : Nat} (hs : ∀ n k, k < N → F (n + 1) k = if p k = true then some (nI k) else F n (k + 1)) (he : ∀ n, F (n + 1) N = some (-1)) : ∀ m k n, k + m = N → m < n → F n k = some (dR p m k) := by
  intro m
  induction m with
  | zero =>
    intro k n hk hn
    obtain ⟨n, rfl⟩ : ∃ j, n = j + 1 := ⟨n - 1, by omega⟩
    have : k = N := by omega
    subst this
    exact he n
  | succ m ih =>
    intro k n hk hn
    obtain ⟨n, rfl⟩ : ∃ j, n = j + 1 := ⟨n - 1, by omega⟩
    rw [hs n k (by omega)]
    by_cases hp : p k = true
    · rw [if_pos hp, dR, if_pos hp]
    · rw [if_neg hp, dR, if_neg hp]
      exact ih (k + 1) n (by omega) (by omega)
theorem d_find0 {F : Nat → Nat → Option Int32} {p : Nat → Bool} {N : Nat} (hN : N < 2147483648) (hs : ∀ n k, k < N → F (n + 1) k = if p k = true then some (nI k) else F n (k + 1)) (he : ∀ n, F (n + 1) N = some (-1)) : F ga_fuel 0 = some (dFind p N) :=
  d_find hs he N 0 ga_fuel (by omega) (d_fuel hN)
theorem dR_spec (p : Nat → Bool) : ∀ m k, (dR p m k = -1 ∧ ∀ j, k ≤ j → j < k + m → p j = false) ∨ ∃ j, k ≤ j ∧ j < k + m ∧ dR p m k = nI j ∧ p j = true ∧ ∀ i, k ≤ i → i < j → p i = false := by
  intro m
  induction m with
  | zero => intro k; exact Or.inl ⟨rfl, fun j h1 h2 => by omega⟩
  | succ m ih =>
    intro k
    unfold dR
    cases hp : p k with
    | true => exact Or.inr ⟨k, Nat.le_refl _, by omega, if_pos rfl, hp, fun i h1 h2 => by omega⟩
    | false =>
      rw [if_neg (by decide)]
      rcases ih (k + 1) with ⟨h1, h2⟩ | ⟨j, h1, h2, h3, h4, h5⟩
      · refine Or.inl ⟨h1, fun j h3 h4 => ?_⟩
        by_cases hj : j = k
        · rw [hj, hp]
        · exact h2 j (by omega) (by omega)
      · refine Or.inr ⟨j, by omega, by omega, h3, h4, fun i h6 h7 => ?_⟩
        by_cases hi : i = k
        · rw [hi, hp]
        · exact h5 i (by omega) h7
theorem dFind_spec (p : Nat → Bool) (N : Nat) : (dFind p N = -1 ∧ ∀ j, j < N → p j = false) ∨ ∃ j, j < N ∧ dFind p N = nI j ∧ p j = true ∧ ∀ i, i < j → p i = false := by
  rcases dR_spec p N 0 with ⟨h1, h2⟩ | ⟨j, h1, h2, h3, h4, h5⟩
  · exact Or.inl ⟨h1, fun j h => h2 j (Nat.zero_le _) (by omega)⟩
  · exact Or.inr ⟨j, by omega, h3, h4, fun i h => h5 i (Nat.zero_le _) h⟩
theorem dR_cong {p q : Nat → Bool} : ∀ m k, (∀ j, k ≤ j → j < k + m → p j = q j) → dR p m k = dR q m k := by
  intro m
  induction m with
  | zero => intro k _; rfl
  | succ m ih =>
    intro k h
    unfold dR
    rw [h k (Nat.le_refl _) (by omega), ih (k + 1) (fun j h1 h2 => h j (by omega) (by omega))]
theorem dFind_cong {p q : Nat → Bool} {N : Nat} (h : ∀ j, j < N → p j = q j) : dFind p N = dFind q N := dR_cong N 0 (fun j _ h2 => h j (by omega))
/-- a loop with a number that grows -/
def dFo (f : Nat → Int32 → Int32) : Nat → Nat → Int32 → Int32
  | 0, _, a => a
  | m + 1, k, a => dFo f m (k + 1) (f k a)
theorem d_fold {α : Type} {F : Nat → Nat → Int32 → Option α} {f : Nat → Int32 → Int32} {g : Int32 → Option α} {N : Nat} (hs : ∀ n k a, k < N → F (n + 1) k a = F n (k + 1) (f k a)) (he : ∀ n a, F (n + 1) N a = g a) : ∀ m k n a, k + m = N → m < n → F n k a = g (dFo f m k a) := by
  intro m
  induction m with
  | zero =>
    intro k n a hk hn
    obtain ⟨n, rfl⟩ : ∃ j, n = j + 1 := ⟨n - 1, by omega⟩
    have : k = N := by omega
    subst this
    exact he n a
  | succ m ih =>
    intro k n a hk hn
    obtain ⟨n, rfl⟩ : ∃ j, n = j + 1 := ⟨n - 1, by omega⟩
    rw [hs n k a (by omega), dFo]
    exact ih (k + 1) n _ (by omega) (by omega)
theorem d_fold0 {α : Type} {F : Nat → Nat → Int32 → Option α} {f : Nat → Int32 → Int32} {g : Int32 → Option α} {N : Nat} (hN : N < 2147483648) (hs : ∀ n k a, k < N → F (n + 1) k a = F n (k + 1) (f k a)) (he : ∀ n a, F (n + 1) N a = g a) (a : Int32) : F ga_fuel 0 a = g (dFo f N 0 a) :=
  d_fold hs he N 0 ga_fuel a (by omega) (d_fuel hN)
theorem dFo_cong {f g : Nat → Int32 → Int32} : ∀ m k a, (∀ j a, k ≤ j → j < k + m → f j a = g j a) → dFo f m k a = dFo g m k a := by
  intro m
  induction m with
  | zero => intro k a _; rfl
  | succ m ih =>
    intro k a h
    unfold dFo
    rw [h k a (Nat.le_refl _) (by omega), ih (k + 1) _ (fun j a h1 h2 => h j a (by omega) (by omega))]
/-- how many -/
def dCf (p : Nat → Bool) (k : Nat) (a : Int32) : Int32 := if p k = true then a + 1 else a
def dCt (p : Nat → Bool) (N : Nat) : Int32 := dFo (dCf p) N 0 0
theorem dCt_cong {p q : Nat → Bool} {N : Nat} (h : ∀ j, j < N → p j = q j) : dCt p N = dCt q N := dFo_cong N 0 0 (fun j a _ h2 => by unfold dCf; rw [h j (by omega)])
/-- the set of those that p holds of -/
def dMf (p : Nat → Bool) (k : Nat) (a : Int32) : Int32 := if p k = true then a ||| (1 <<< (nI k &&& 31)) else a
def dMs (p : Nat → Bool) (N : Nat) : Int32 := dFo (dMf p) N 0 0
theorem dMs_cong {p q : Nat → Bool} {N : Nat} (h : ∀ j, j < N → p j = q j) : dMs p N = dMs q N := dFo_cong N 0 0 (fun j a _ h2 => by unfold dMf; rw [h j (by omega)])
/-- numbers by their places -/
theorem d_nI0 : nI 0 = 0 := rfl
theorem d_r1 (k : Nat) : nI k + 1 = nI (k + 1) := nI_1 k
theorem d_a0 (k : Nat) : (0 : Int32) + nI k = nI k := by rw [show (0 : Int32) = nI 0 from rfl, nI_add, Nat.zero_add]
theorem d_a1 (k : Nat) : (1 : Int32) + nI k = nI (1 + k) := nI_add 1 k
theorem d_a7 (k : Nat) : (7 : Int32) + nI k = nI (7 + k) := nI_add 7 k
theorem d_a13 (k : Nat) : (13 : Int32) + nI k = nI (13 + k) := nI_add 13 k
theorem d_a21 (k : Nat) : (21 : Int32) + nI k = nI (21 + k) := nI_add 21 k
theorem d_a29 (k : Nat) : (29 : Int32) + nI k = nI (29 + k) := nI_add 29 k
theorem d_a35 (k : Nat) : (35 : Int32) + nI k = nI (35 + k) := nI_add 35 k
theorem d_a40 (k : Nat) : (40 : Int32) + nI k = nI (40 + k) := nI_add 40 k
theorem d_a75 (k : Nat) : (75 : Int32) + nI k = nI (75 + k) := nI_add 75 k
theorem d_a80 (k : Nat) : (80 : Int32) + nI k = nI (80 + k) := nI_add 80 k
theorem d_a115 (k : Nat) : (115 : Int32) + nI k = nI (115 + k) := nI_add 115 k
theorem d_a120 (k : Nat) : (120 : Int32) + nI k = nI (120 + k) := nI_add 120 k
theorem d_a155 (k : Nat) : (155 : Int32) + nI k = nI (155 + k) := nI_add 155 k
theorem d_a160 (k : Nat) : (160 : Int32) + nI k = nI (160 + k) := nI_add 160 k
theorem d_a195 (k : Nat) : (195 : Int32) + nI k = nI (195 + k) := nI_add 195 k
theorem d_ix {m n : Nat} (h : m < n) (hn : n < 2147483648) : (nI m < 0 ∨ n ≤ (nI m).toNatClampNeg) = False := eq_false (nI_in h hn)
theorem d_cl {n : Nat} (h : n < 2147483648) : (nI n).toNatClampNeg = n := nI_clamp h
theorem d_le {a b : Nat} (ha : a < 2147483648) (hb : b < 2147483648) : (nI a ≤ nI b) = (a ≤ b) := propext (nI_leI ha hb)
theorem d_lt {a b : Nat} (ha : a < 2147483648) (hb : b < 2147483648) : (nI a < nI b) = (a < b) := propext (nI_ltI ha hb)
theorem d_eq {a b : Nat} (ha : a < 2147483648) (hb : b < 2147483648) : (nI a = nI b) = (a = b) := propext (nI_eq ha hb)
theorem d_n0 {a : Nat} (ha : a < 2147483648) : (nI a < 0) = False := eq_false (nI_pos ha)
theorem d_at {a n k : Nat} {s : ga_M} (h : k < n) (hn : n < 2147483648) : ga_at a n (nI k) s = s a k := by
  unfold ga_at
  rw [if_neg (nI_pos (by omega)), if_neg (show ¬ Int32.ofNat n ≤ nI k from nI_ge h hn), nI_clamp (by omega)]
theorem d_pt {a n k : Nat} {x : Int32} {s : ga_M} (h : k < n) (hn : n < 2147483648) : ga_pt a n (nI k) x s = ga_up s a k x := by
  unfold ga_pt
  rw [if_neg (nI_pos (by omega)), if_neg (show ¬ Int32.ofNat n ≤ nI k from nI_ge h hn), nI_clamp (by omega)]
theorem d_up_eq {s : ga_M} {a k : Nat} {x : Int32} : ga_up s a k x a k = x := by simp [ga_up, upd]
theorem d_up_ne {s : ga_M} {a k b : Nat} {x : Int32} (h : b ≠ a) : ga_up s a k x b = s b := by simp [ga_up, h]
theorem d_up_nk {s : ga_M} {a k b j : Nat} {x : Int32} (h : ¬ (b = a ∧ j = k)) : ga_up s a k x b j = s b j := by
  unfold ga_up
  by_cases hb : b = a
  · subst hb
    rw [if_pos rfl]
    simp [upd, show ¬ j = k from fun e => h ⟨rfl, e⟩]
  · rw [if_neg hb]
theorem d_up_at (s : ga_M) (a k b j : Nat) (x : Int32) : ga_up s a k x b j = if b = a ∧ j = k then x else s b j := by
  split
  · rename_i h; obtain ⟨rfl, rfl⟩ := h; exact d_up_eq
  · rename_i h; exact d_up_nk h
/-- a number that is inside, or is not -/
theorem d_in (x : Int32) (n : Nat) (hn : n < 2147483648) : (∃ j, j < n ∧ x = nI j) ∨ ((x < 0 ∨ nI n ≤ x) ∧ ∀ j, j < n → x ≠ nI j) := by
  rcases pk_ix x hn with h | h | h
  · refine Or.inr ⟨Or.inl h, fun j hj e => ?_⟩
    rw [e] at h
    exact nI_pos (by omega) h
  · refine Or.inr ⟨Or.inr h, fun j hj e => ?_⟩
    rw [e] at h
    exact nI_ge hj hn h
  · exact Or.inl h
end D0
