section D5
/-! ===== loads ===== -/
variable {N : Nat → Nat} {Q P : Nat → Nat → Int32} {s : ga_M}
theorem d_i1 (a b : Int32) : (a + 1) - (b + 1) = a - b := by
  apply Int32.toBitVec_inj.mp; simp only [Int32.toBitVec_sub, Int32.toBitVec_add]; bv_omega
theorem d_i2 (a b : Int32) : (a - b) + 1 = (a + 1) - b := by
  apply Int32.toBitVec_inj.mp; simp only [Int32.toBitVec_sub, Int32.toBitVec_add]; bv_omega
theorem d_i3 (a b : Int32) : (a - b) + (-1) = a - (b + 1) := by
  apply Int32.toBitVec_inj.mp; simp only [Int32.toBitVec_sub, Int32.toBitVec_add, Int32.toBitVec_neg]; bv_omega
/-- what grows with p, falls with q -/
def dBf (p q : Nat → Bool) (k : Nat) (a : Int32) : Int32 := if q k = true then dCf p k a + (-1) else dCf p k a
theorem d_bf (p q : Nat → Bool) : ∀ m k a b, dFo (dBf p q) m k (a - b) = dFo (dCf p) m k a - dFo (dCf q) m k b := by
  intro m
  induction m with
  | zero => intro k a b; rfl
  | succ m ih =>
    intro k a b
    have e : dBf p q k (a - b) = dCf p k a - dCf q k b := by
      unfold dBf dCf
      by_cases h1 : p k = true <;> by_cases h2 : q k = true <;> simp only [h1, h2, if_true, if_false, reduceIte, Bool.false_eq_true]
      · rw [d_i2, d_i3]
      · rw [d_i2]
      · rw [d_i3]
    unfold dFo
    rw [e, ih]
theorem d_bf0 (p q : Nat → Bool) (n : Nat) : dFo (dBf p q) n 0 0 = dCt p n - dCt q n := by
  have := d_bf p q n 0 0 0
  rw [show (0 : Int32) - 0 = 0 from rfl] at this
  exact this
end D5
