section D55
/-! ===== one step of a script: what it does ===== -/
variable {N : Nat → Nat} {Q P : Nat → Nat → Int32} {s : ga_M}
theorem gL_y (hN : dWN N) (h : dC N Q P s) {j : Nat} (hj : j < N 6) : v_X7_hasLesson (nI j) s = 1 := by rw [dc_hasLesson hN h, d_yes hj]; rfl
theorem gL_n (hN : dWN N) (h : dC N Q P s) {x : Int32} (hj : ∀ j, j < N 6 → x ≠ nI j) : v_X7_hasLesson x s = 0 := by rw [dc_hasLesson hN h, d_noo hj]; rfl
theorem gT_y (hN : dWN N) (h : dC N Q P s) {j : Nat} (hj : j < N 3) : v_X7_hasTeacher (nI j) s = 1 := by rw [dc_hasTeacher hN h, d_yes hj]; rfl
theorem gT_n (hN : dWN N) (h : dC N Q P s) {x : Int32} (hj : ∀ j, j < N 3 → x ≠ nI j) : v_X7_hasTeacher x s = 0 := by rw [dc_hasTeacher hN h, d_noo hj]; rfl
theorem gD_y (hN : dWN N) (h : dC N Q P s) {j : Nat} (hj : j < N 0) : v_X7_hasDay (nI j) s = 1 := by rw [dc_hasDay hN h, d_yes hj]; rfl
theorem gD_n (hN : dWN N) (h : dC N Q P s) {x : Int32} (hj : ∀ j, j < N 0 → x ≠ nI j) : v_X7_hasDay x s = 0 := by rw [dc_hasDay hN h, d_noo hj]; rfl
theorem gR_y (hN : dWN N) (h : dC N Q P s) {j : Nat} (hj : j < N 4) : v_X7_hasRoom (nI j) s = 1 := by rw [dc_hasRoom hN h, d_yes hj]; rfl
theorem gR_n (hN : dWN N) (h : dC N Q P s) {x : Int32} (hj : ∀ j, j < N 4 → x ≠ nI j) : v_X7_hasRoom x s = 0 := by rw [dc_hasRoom hN h, d_noo hj]; rfl
theorem gS_y (hN : dWN N) (h : dC N Q P s) {j : Nat} (hj : j < dSl N) : v_X7_hasSlot (nI j) s = 1 := by rw [dc_hasSlot hN h, d_yes hj]; rfl
theorem gS_n (hN : dWN N) (h : dC N Q P s) {x : Int32} (hj : ∀ j, j < dSl N → x ≠ nI j) : v_X7_hasSlot x s = 0 := by rw [dc_hasSlot hN h, d_noo hj]; rfl
theorem d_nee (x : Int32) (s1 : ga_M) : (if x = 0 then some ((0 : Int32), s1) else some (1, s1)) = some (if x = 0 then 0 else 1, s1) := by split <;> rfl
theorem d_ok1 {p : Prop} [Decidable p] : (if aB (decide p) = 0 then (0 : Int32) else 1) = aB (decide p) := by
  by_cases h : p <;> simp [h, aB]
theorem d_ok2 {α : Type} {p : Prop} [Decidable p] {s : α} : (if p then some ((1 : Int32), s) else some (0, s)) = some (aB (decide p), s) := by
  by_cases h : p <;> simp [h, aB]
end D55
