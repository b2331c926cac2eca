section D3
/-! ===== what the reference's reading methods answer ===== -/
variable {N : Nat → Nat} {Q P : Nat → Nat → Int32} {s : ga_M}
theorem d_cmp_lt (x y : Int32) : lg_cmp x.toInt64 y.toInt64 < 0 ↔ x < y := by
  rw [lg_cmp_lt, Int32.toInt64_lt]
theorem d_cmp_gt (x y : Int32) : 0 < lg_cmp x.toInt64 y.toInt64 ↔ y < x := by
  rw [lg_cmp_gt, Int32.toInt64_lt]
theorem d_nI_sub {n : Nat} (hn : n < 2147483648) (x : Int32) : nI n - 1 < x ↔ nI n ≤ x := by
  rw [Int32.lt_iff_toInt_lt, Int32.le_iff_toInt_le, Int32.toInt_sub]
  have h1 : (nI n).toInt = n := nI_toInt hn
  rw [h1]
  have h2 : (1 : Int32).toInt = 1 := rfl
  rw [h2]
  have h3 : ((n : Int) - 1).bmod (2 ^ 32) = (n : Int) - 1 := Int.bmod_eq_of_le (by omega) (by omega)
  rw [h3]
  omega
/-- a number inside, the reference's way -/
theorem dm_in {n : Nat} (hn : n < 2147483648) (x : Int32) : v_X12_in (x : Int32).toInt64 (0 : Int32).toInt64 ((nI n - 1 : Int32)).toInt64 s = aB (decide (∃ j, j < n ∧ x = nI j)) := by
  rw [← d_has n hn x, ve_X12_in]
  unfold vb_X12_in
  simp only [d_cmp_lt, d_cmp_gt, d_nI_sub hn]
theorem dm_isTeacher (hN : dWN N) (h : dM N Q P s) (x : Int32) : v_X12_isTeacher x s = aB (decide (∃ j, j < N 3 ∧ x = nI j)) := by
  rw [ve_X12_isTeacher]; unfold vb_X12_isTeacher
  rw [show s 73 3 = nI (N 3) from h.1.1 3 (by decide)]
  exact dm_in (dWN_lt hN).2.2.2.1 x
theorem dm_isLesson (hN : dWN N) (h : dM N Q P s) (x : Int32) : v_X12_isLesson x s = aB (decide (∃ j, j < N 6 ∧ x = nI j)) := by
  rw [ve_X12_isLesson]; unfold vb_X12_isLesson
  rw [show s 73 6 = nI (N 6) from h.1.1 6 (by decide)]
  exact dm_in (dWN_lt hN).2.2.2.2.2.2 x
end D3
