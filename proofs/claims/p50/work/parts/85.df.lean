section D15
variable {N : Nat → Nat} {Q P : Nat → Nat → Int32} {s : ga_M}
theorem d_10 : ((1 : Int32) = 0) = False := eq_false (by decide)
theorem d_01 : ((0 : Int32) = 1) = False := eq_false (by decide)
theorem d_00 : ((0 : Int32) = 0) = True := eq_true rfl
theorem d_11 : ((1 : Int32) = 1) = True := eq_true rfl
theorem d_up_up (s : ga_M) (c i : Nat) (x y : Int32) : ga_up (ga_up s c i x) c i y = ga_up s c i y := by
  funext a b
  rw [d_up_at, d_up_at, d_up_at]
  split <;> rfl
theorem d_i64 (x : Int32) : x.toInt64.toInt32 = x := by simp
theorem dM_cong {s' : ga_M} (e1 : s' 73 = s 73) (e2 : s' 75 = s 75) (h : dM N Q P s) : dM N Q P s' := by
  unfold dM dMS dMP at *; rw [e1, e2]; exact h
theorem dM_726 (h : dM N Q P s) (x : Int32) : dM N Q P (ga_up s 72 6 x) := dM_cong (d_up_ne (by decide)) (d_up_ne (by decide)) h
theorem dc_slots (h : dC N Q P s) : v_X7_slots s = nI (dSl N) := by
  rw [ve_X7_slots]; unfold vb_X7_slots; rw [dcN h (by decide), dcN h (by decide), pk_mul]; rfl
theorem dc_hasSlot (hN : dWN N) (h : dC N Q P s) (x : Int32) : v_X7_hasSlot x s = aB (decide (∃ j, j < dSl N ∧ x = nI j)) := by
  have hB := dWN_b hN
  rw [ve_X7_hasSlot]; unfold vb_X7_hasSlot
  rw [dc_slots h]
  exact d_has _ (by omega) x
theorem d_yes {n j : Nat} (h : j < n) : decide (∃ i, i < n ∧ nI j = nI i) = true := decide_eq_true ⟨j, h, rfl⟩
theorem d_noo {n : Nat} {x : Int32} (h : ∀ j, j < n → x ≠ nI j) : decide (∃ i, i < n ∧ x = nI i) = false := decide_eq_false (fun ⟨j, h1, h2⟩ => h j h1 h2)
theorem cL_y (hN : dWN N) (h : dC N Q P s) {j : Nat} (hj : j < N 6) : v_X11_requireLesson (nI j) s = none := by
  rw [ve_X11_requireLesson]; unfold vb_X11_requireLesson; rw [dc_hasLesson hN h, d_yes hj]; rfl
theorem cL_n (hN : dWN N) (h : dC N Q P s) {x : Int32} (hj : ∀ j, j < N 6 → x ≠ nI j) : v_X11_requireLesson x s = some 3 := by
  rw [ve_X11_requireLesson]; unfold vb_X11_requireLesson; rw [dc_hasLesson hN h, d_noo hj]; rfl
theorem cT_y (hN : dWN N) (h : dC N Q P s) {j : Nat} (hj : j < N 3) : v_X11_requireTeacher (nI j) s = none := by
  rw [ve_X11_requireTeacher]; unfold vb_X11_requireTeacher; rw [dc_hasTeacher hN h, d_yes hj]; rfl
theorem cT_n (hN : dWN N) (h : dC N Q P s) {x : Int32} (hj : ∀ j, j < N 3 → x ≠ nI j) : v_X11_requireTeacher x s = some 3 := by
  rw [ve_X11_requireTeacher]; unfold vb_X11_requireTeacher; rw [dc_hasTeacher hN h, d_noo hj]; rfl
theorem cD_y (hN : dWN N) (h : dC N Q P s) {j : Nat} (hj : j < N 0) : v_X11_requireDay (nI j) s = none := by
  rw [ve_X11_requireDay]; unfold vb_X11_requireDay; rw [dc_hasDay hN h, d_yes hj]; rfl
theorem cD_n (hN : dWN N) (h : dC N Q P s) {x : Int32} (hj : ∀ j, j < N 0 → x ≠ nI j) : v_X11_requireDay x s = some 3 := by
  rw [ve_X11_requireDay]; unfold vb_X11_requireDay; rw [dc_hasDay hN h, d_noo hj]; rfl
theorem cR_y (hN : dWN N) (h : dC N Q P s) {j : Nat} (hj : j < N 4) : v_X11_requireRoom (nI j) s = none := by
  rw [ve_X11_requireRoom]; unfold vb_X11_requireRoom; rw [dc_hasRoom hN h, d_yes hj]; rfl
theorem cR_n (hN : dWN N) (h : dC N Q P s) {x : Int32} (hj : ∀ j, j < N 4 → x ≠ nI j) : v_X11_requireRoom x s = some 3 := by
  rw [ve_X11_requireRoom]; unfold vb_X11_requireRoom; rw [dc_hasRoom hN h, d_noo hj]; rfl
theorem cS_y (hN : dWN N) (h : dC N Q P s) {j : Nat} (hj : j < dSl N) : v_X11_requireSlot (nI j) s = none := by
  rw [ve_X11_requireSlot]; unfold vb_X11_requireSlot; rw [dc_hasSlot hN h, d_yes hj]; rfl
theorem cS_n (hN : dWN N) (h : dC N Q P s) {x : Int32} (hj : ∀ j, j < dSl N → x ≠ nI j) : v_X11_requireSlot x s = some 3 := by
  rw [ve_X11_requireSlot]; unfold vb_X11_requireSlot; rw [dc_hasSlot hN h, d_noo hj]; rfl
theorem d_cls (n : Nat) (hn : n < 2147483648) (x : Int32) : (if x < 0 then some (3 : Nat) else if x < nI n then none else some 3) = if (∃ j, j < n ∧ x = nI j) then none else some 3 := by
  rcases d_in x n hn with ⟨j, h1, rfl⟩ | ⟨h1, h2⟩
  · rw [if_neg (nI_pos (by omega)), if_pos (nI_lt h1 hn), if_pos ⟨j, h1, rfl⟩]
  · rw [if_neg (show ¬ ∃ j, j < n ∧ x = nI j from fun ⟨j, h3, h4⟩ => h2 j h3 h4)]
    rcases h1 with h1 | h1
    · rw [if_pos h1]
    · split
      · rfl
      · rw [if_neg (Int32.not_lt.mpr h1)]
theorem cK_y (hN : dWN N) (h : dC N Q P s) {j : Nat} (hj : j < N 5) : v_X11_requireClass (nI j) s = none := by
  have hB := dWN_b hN
  rw [ve_X11_requireClass]; unfold vb_X11_requireClass; rw [dcN h (by decide), d_cls _ (by omega), if_pos ⟨j, hj, rfl⟩]
theorem cK_n (hN : dWN N) (h : dC N Q P s) {x : Int32} (hj : ∀ j, j < N 5 → x ≠ nI j) : v_X11_requireClass x s = some 3 := by
  have hB := dWN_b hN
  rw [ve_X11_requireClass]; unfold vb_X11_requireClass; rw [dcN h (by decide), d_cls _ (by omega), if_neg (fun ⟨j, h3, h4⟩ => hj j h3 h4)]
/-- a call that only asks: both answer alike -/
def dQc (N : Nat → Nat) (Q P : Nat → Nat → Int32) (fc : ga_M → Option (Int32 ⊕ Nat)) (fm : ga_M → Option (Int32 × ga_M)) (cd : Nat → Int32) : Prop :=
  (∃ v : Int32, (∀ s, dC N Q P s → fc s = some (.inl v)) ∧ ∀ s, dM N Q P s → fm s = some (v, ga_up s 72 6 0)) ∨
  ∃ e : Nat, cd e ≠ 0 ∧ (∀ s, dC N Q P s → fc s = some (.inr e)) ∧ ∀ s, dM N Q P s → ∃ b : Int32, fm s = some (b, ga_up s 72 6 (cd e))
/-- the exceptions that a call of the law tells, by its own numbers -/
def dK (a b e : Nat) : Int32 := if e = a then 1 else if e = b then 2 else 0
theorem dK_a (a b : Nat) : dK a b a = 1 := if_pos rfl
theorem dK_31 : dK 3 1 1 = 2 := rfl
theorem dK_32 : dK 3 2 2 = 2 := rfl
theorem dK_34 : dK 3 4 4 = 2 := rfl
end D15
