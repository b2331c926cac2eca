section D51
/-! ===== the school's text as a whole ===== -/
variable {T : Nat → Nat} {L : Nat} {N : Nat → Nat} {Q : Nat → Nat → Int32} {s t : ga_M}
theorem tK0 {st : Nat} : tK T L st = 0 ↔ L ≤ st := by
  unfold tK
  constructor
  · intro h
    by_cases c : L ≤ st
    · exact c
    · rw [if_neg c] at h
      split at h
      · cases h
      · split at h
        · cases h
        · split at h
          · cases h
          · cases h
  · intro h; rw [if_pos h]
theorem nU_n6 (h : dWN6 N) (h40 : N 6 < 40) : dWN6 (nU N 6 (N 6 + 1)) := by
  obtain ⟨n0, n1, n2, n3, n4, n5, n6⟩ := h
  exact ⟨n0, n1, n2, n3, n4, n5, show N 6 + 1 ≤ 40 by omega⟩
end D51
