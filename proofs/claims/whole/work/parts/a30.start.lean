section D60
/-! ===== the states that the law's loop begins with ===== -/
variable {s : ga_M}
def iN : Nat → Nat := fun k => if k = 1 then 2 else if k = 3 then 2 else 1
def iQ : Nat → Nat → Int32 := fun a _ => if a = 2 then 2 else if a = 3 then 1 else 0
theorem iN_ok : dWN iN := by decide
theorem iQ_ok : dWQ iN iQ := by
  have h6 : iN 6 = 1 := rfl
  unfold dWQ
  rw [h6]
  exact ⟨fun k hk => ⟨0, by decide, rfl⟩, fun k hk => ⟨0, by decide, rfl⟩, fun k hk => ⟨0, by decide, rfl⟩, fun k hk => ⟨0, by decide, rfl⟩, fun i k hi hk hik => by omega, fun i k hi hk hik => by omega⟩
theorem z_eq (s : ga_M) (a k : Nat) : ga_z s a a k = 0 := by unfold ga_z; simp
theorem z_ne' {s : ga_M} {a b : Nat} (h : b ≠ a) : ga_z s a b = s b := by unfold ga_z; simp [h]
theorem c_sample (s : ga_M) : dCS 1 iN iQ (v_X7_becomeSample (zk_X7_init_1 (ga_z s 1))) := by
  generalize zk_X7_init_1 (ga_z s 1) = u
  rw [ve_X7_becomeSample]; unfold vb_X7_becomeSample
  rw [ve_X7_becomeEmpty, ve_X7_addSubject, ve_X7_addTeacher, ve_X7_addRoom, ve_X7_addLesson]
  unfold vb_X7_becomeEmpty vb_X7_addSubject vb_X7_addTeacher vb_X7_addRoom vb_X7_addLesson
  sorry
end D60
