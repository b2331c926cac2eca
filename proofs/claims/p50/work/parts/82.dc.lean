section D12
variable {N : Nat → Nat} {Q P : Nat → Nat → Int32} {s : ga_M}
theorem d_ne2 {k : Nat} (hk : k < 2147483648) : nI k ≠ -2 := fun e => nI_pos hk (by rw [e]; decide)
theorem d_ne1 {k : Nat} (hk : k < 2147483648) : nI k ≠ -1 := fun e => nI_pos hk (by rw [e]; decide)
theorem aWith_at (hN : dWN N) (i : Nat) (v x : Int32) : aWith N P i v x (-2) (-2) = aAt N P i x v := by
  have hL : N 6 ≤ 40 := hN.2.2.2.2.2.2
  refine dFind_cong (fun j hj => ?_)
  have h2 : nI j ≠ -2 := d_ne2 (by omega)
  simp [h2]
end D12
