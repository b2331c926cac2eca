section D3
/-! ===== what the reference's reading methods answer ===== -/
variable {N : Nat → Nat} {Q P : Nat → Nat → Int32} {s : ga_M}
theorem d_cmp_lt (x y : Int32) : lg_cmp x.toInt64 y.toInt64 < 0 ↔ x < y := by
  rw [lg_cmp_lt, Int32.toInt64_lt]
theorem d_cmp_gt (x y : Int32) : 0 < lg_cmp x.toInt64 y.toInt64 ↔ y < x := by
  rw [lg_cmp_gt, Int32.toInt64_lt]
theorem d_nI_sub {n : Nat} (hn : n < 2147483648) (x : Int32) : nI n - 1 < x ↔ nI n ≤ x := by
  rw [Int32.lt_iff_toInt_lt, Int32.le_iff_toInt_le, Int32.toInt_sub]
  have h1 : (nI n).toInt = n := nI_toInt hn
  rw [h1]
  have h2 : (1 : Int32).toInt = 1 := rfl
  rw [h2]
  have h3 : ((n : Int) - 1).bmod (2 ^ 32) = (n : Int) - 1 := Int.bmod_eq_of_le (by omega) (by omega)
  rw [h3]
  omega
end D3
