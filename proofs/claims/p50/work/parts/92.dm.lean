section D22
variable {N : Nat → Nat} {Q P : Nat → Nat → Int32} {s : ga_M}
/-! the spread of the loads -/
def dSf (N : Nat → Nat) (Q P : Nat → Nat → Int32) (k : Nat) (a : Int32 × Int32 × Int32) : Int32 × Int32 × Int32 :=
  if P 4 k = 0 then (if a.1 = 0 then (1, aLoad N Q P (nI k), aLoad N Q P (nI k)) else (1, if aLoad N Q P (nI k) < a.2.1 then aLoad N Q P (nI k) else a.2.1, if a.2.2 < aLoad N Q P (nI k) then aLoad N Q P (nI k) else a.2.2)) else a
def aSpread (N : Nat → Nat) (Q P : Nat → Nat → Int32) : Int32 := (gFo (dSf N Q P) (N 3) 0 (0, 0, 0)).2.2 - (gFo (dSf N Q P) (N 3) 0 (0, 0, 0)).2.1
theorem dc_spread (hN : dWN N) (h : dC N Q P s) : f_X11_spread s = some (aSpread N Q P) := by
  have hB := dWN_b hN
  rw [fe_X11_spread]
  have e := g_fold0 (F := fun n k (a : Int32 × Int32 × Int32) => f_X11_spread_h9 n a.1 a.2.1 a.2.2 (nI k) s) (f := dSf N Q P) (g := fun a => some (a.2.2 - a.2.1)) (N := N 3) (by omega) (fun n k a hk => ?_) (fun n a => ?_) (0, 0, 0)
  · exact e
  · have e4 := dc30 h (show k < 8 by omega)
    simp (disch := omega) only [f_X11_spread_h9, e4, dcN h, dc3 h, dc5 h, dc7 h, dc9 h, dc11 h, dc13 h, dc15 h, dc17 h, dc19 h, dc22 h, dc24 h, dc26 h, dc28 h, dc30 h, dc_loadOf hN h, d_a0, d_a1, d_a7, d_a13, d_a21, d_a29, d_a35, d_a40, d_a75, d_a80, d_a115, d_a120, d_a155, d_a160, d_a195, d_r1, d_nI0, d_ix, d_cl, d_le, d_lt, d_eq, d_at, d_pt, if_false, if_true, Int32.add_zero, Option.bind_some, reduceIte, Nat.zero_add, Bool.and_eq_true, decide_eq_true_eq, decide_true, decide_false, Bool.and_true, Bool.true_and, Bool.false_and, Bool.and_false, Bool.true_eq_false, Bool.false_eq_true, false_and, and_false, true_and, and_true, d_n0, d_lef, false_or, or_false, or_self, false_and, not_true_eq_false, not_false_eq_true, ne_eq, not_true, not_false_iff, aB_0, aB_1]
    rw [ve_J9_min_7cf53, ve_J9_max_7cf53]
    unfold vb_J9_min_7cf53 vb_J9_max_7cf53
    by_cases c1 : P 4 k = 0 <;> by_cases c2 : a.1 = 0 <;> simp [c1, c2, dSf]
  · simp (disch := omega) only [f_X11_spread_h9, dcN h, dc3 h, dc5 h, dc7 h, dc9 h, dc11 h, dc13 h, dc15 h, dc17 h, dc19 h, dc22 h, dc24 h, dc26 h, dc28 h, dc30 h]
    rw [if_pos (nI_le (Nat.le_refl _) (by omega))]
def dSr (N : Nat → Nat) (Q P : Nat → Nat → Int32) (a : Int32 × Int32 × Int32) (x y : Int32) : Prop :=
  (a = (0, 0, 0) ∧ x = -1 ∧ y = -1) ∨ (a.1 = 1 ∧ ∃ i j, i < N 3 ∧ j < N 3 ∧ x = nI i ∧ y = nI j ∧ a.2.2 = aLoad N Q P (nI i) ∧ a.2.1 = aLoad N Q P (nI j))
/-! the share of the taught -/
def nCt (p : Nat → Bool) : Nat → Nat → Nat
  | 0, _ => 0
  | m + 1, k => (if p k = true then 1 else 0) + nCt p m (k + 1)
theorem dFo_nCt (p : Nat → Bool) : ∀ m k a, dFo (dCf p) m k (nI a) = nI (a + nCt p m k) := by
  intro m
  induction m with
  | zero => intro k a; rfl
  | succ m ih =>
    intro k a
    unfold dFo nCt
    by_cases c : p k = true
    · rw [show dCf p k (nI a) = nI (a + 1) from (if_pos c).trans (nI_1 a), if_pos c, ih, Nat.add_assoc]
    · rw [show dCf p k (nI a) = nI a from if_neg c, if_neg c, ih, Nat.zero_add]
theorem dCt_n (p : Nat → Bool) (n : Nat) : dCt p n = nI (nCt p n 0) := by
  have := dFo_nCt p n 0 0
  rw [Nat.zero_add] at this
  exact this
theorem nCt_le2 {p q : Nat → Bool} : ∀ m k, (∀ j, k ≤ j → j < k + m → p j = true → q j = true → False) → nCt p m k + nCt q m k ≤ m := by
  intro m
  induction m with
  | zero => intro k _; exact Nat.le_refl _
  | succ m ih =>
    intro k h
    have := ih (k + 1) (fun j h1 h2 => h j (by omega) (by omega))
    have hk := h k (Nat.le_refl _) (by omega)
    unfold nCt
    by_cases c1 : p k = true
    · rw [if_pos c1, if_neg (fun c2 => hk c1 c2)]; omega
    · rw [if_neg c1]; split <;> omega
theorem nCt_le {p : Nat → Bool} : ∀ m k, nCt p m k ≤ m := by
  intro m
  induction m with
  | zero => intro k; exact Nat.le_refl _
  | succ m ih =>
    intro k
    have := ih (k + 1)
    unfold nCt
    split <;> omega
set_option maxRecDepth 100000 in
theorem d_share : ∀ L, L < 41 → ∀ x, x < 41 → L = 0 ∨ (FP.ddiv (FP.i2d (nI x)) (FP.i2d (nI L)) &&& 0x7fffffffffffffff ≤ 0x7ff0000000000000) := by
  decide +kernel
def aShare (N : Nat → Nat) (P : Nat → Nat → Int32) : UInt64 := if N 6 = 0 then FP.dconst1 else FP.ddiv (FP.i2d ((nI (N 6) - dCt (fun k => decide (P 1 k = -1)) (N 6)) - dCt (fun k => decide (P 3 k = 1)) (N 6))) (FP.i2d (nI (N 6)))
theorem d_shareN (hW : dW N Q P) (h0 : N 6 ≠ 0) : FP.ddiv (FP.i2d ((nI (N 6) - dCt (fun k => decide (P 1 k = -1)) (N 6)) - dCt (fun k => decide (P 3 k = 1)) (N 6))) (FP.i2d (nI (N 6))) &&& 0x7fffffffffffffff ≤ 0x7ff0000000000000 := by
  have hB := dWN_b hW.1
  rw [dCt_n, dCt_n]
  have h1 := nCt_le2 (p := fun k => decide (P 1 k = -1)) (q := fun k => decide (P 3 k = 1)) (N 6) 0 (fun j _ h2 h3 h4 => by
    simp only [decide_eq_true_eq] at h3 h4
    rcases hW.2.2.2.2.2.1 j (by omega) with c | ⟨_, c⟩
    · rw [h4] at c; revert c; decide
    · exact c h3)
  rw [pk_sub (by omega), pk_sub (by omega)]
  rcases d_share (N 6) (by omega) (N 6 - nCt (fun k => decide (P 1 k = -1)) (N 6) 0 - nCt (fun k => decide (P 3 k = 1)) (N 6) 0) (by omega) with e | e
  · exact absurd e h0
  · exact e
theorem dc_share (hW : dW N Q P) (h : dC N Q P s) : f_X11_taughtShare s = some (aShare N P) := by
  have hN := hW.1
  have hB := dWN_b hN
  rw [fe_X11_taughtShare]; unfold fb_X11_taughtShare aShare
  rw [dcN h (by decide)]
  by_cases c : N 6 = 0
  · rw [if_pos c, c, if_neg (by decide)]
  · have c2 : 0 < nI (N 6) := nI_lt (a := 0) (by omega) (by omega)
    rw [if_neg c, if_pos c2, fe_X3_taughtLessons]; unfold fb_X3_taughtLessons
    rw [dc_open hN h, dc_super hN h, Option.bind_some, Option.bind_some, dcN h (by decide), Option.bind_some, if_pos (d_shareN hW c)]
end D22
