section D18
variable {N : Nat → Nat} {Q P : Nat → Nat → Int32} {s : ga_M}
theorem d_or0 (x : Int32) : x ||| 0 = x := by simp
theorem aExch_le {l o : Nat} : (aExch N Q P l o ≤ 0) = (aExch N Q P l o = 0) := by
  unfold aExch
  repeat' split
  all_goals decide
theorem dc_findS {F : Nat → Nat → Option (Int32 ⊕ Nat)} {p : Nat → Bool} {N e : Nat} (hN : N < 2147483648) (hs : ∀ n k, k < N → F (n + 1) k = if p k = true then some (.inl (nI k)) else F n (k + 1)) (he : ∀ n, F (n + 1) N = some (.inr e)) :
    ∀ m k n, k + m = N → m < n → F n k = some (if dR p m k = -1 then .inr e else .inl (dR p m k)) := by
  intro m
  induction m with
  | zero =>
    intro k n hk hn
    obtain ⟨n, rfl⟩ : ∃ j, n = j + 1 := ⟨n - 1, by omega⟩
    have : k = N := by omega
    subst this
    exact he n
  | succ m ih =>
    intro k n hk hn
    obtain ⟨n, rfl⟩ : ∃ j, n = j + 1 := ⟨n - 1, by omega⟩
    rw [hs n k (by omega)]
    by_cases hp : p k = true
    · rw [if_pos hp, dR, if_pos hp]
      rw [if_neg (d_ne1 (by omega))]
    · rw [if_neg hp, dR, if_neg hp]
      exact ih (k + 1) n (by omega) (by omega)
end D18
