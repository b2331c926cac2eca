section D12
variable {N : Nat → Nat} {Q P : Nat → Nat → Int32} {s : ga_M}
theorem d_ne2 {k : Nat} (hk : k < 2147483648) : nI k ≠ -2 := fun e => nI_pos hk (by rw [e]; decide)
theorem d_ne1 {k : Nat} (hk : k < 2147483648) : nI k ≠ -1 := fun e => nI_pos hk (by rw [e]; decide)
theorem aWith_at (hN : dWN N) (i : Nat) (v x : Int32) : aWith N P i v x (-2) (-2) = aAt N P i x v := by
  have hL : N 6 ≤ 40 := hN.2.2.2.2.2.2
  refine dFind_cong (fun j hj => ?_)
  have h2 : nI j ≠ -2 := d_ne2 (by omega)
  simp [h2]
theorem dm_ofTeacher (hN : dWN N) (h : dM N Q P s) (v x : Int32) : f_X12_lessonWith 40 v x (-2) (-2) s = some (aAt N P 1 x v) := by rw [dm_lessonWith_40 hN h, aWith_at hN]
theorem dm_inRoom (hN : dWN N) (h : dM N Q P s) (v x : Int32) : f_X12_lessonWith 80 v x (-2) (-2) s = some (aAt N P 2 x v) := by rw [dm_lessonWith_80 hN h, aWith_at hN]
end D12
