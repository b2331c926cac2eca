section D21
variable {N : Nat → Nat} {Q P : Nat → Nat → Int32} {s : ga_M}
/-- a loop with any state -/
def gFo {β : Type} (f : Nat → β → β) : Nat → Nat → β → β
  | 0, _, a => a
  | m + 1, k, a => gFo f m (k + 1) (f k a)
theorem g_fold {α β : Type} {F : Nat → Nat → β → Option α} {f : Nat → β → β} {g : β → Option α} {N : Nat} (hs : ∀ n k a, k < N → F (n + 1) k a = F n (k + 1) (f k a)) (he : ∀ n a, F (n + 1) N a = g a) : ∀ m k n a, k + m = N → m < n → F n k a = g (gFo f m k a) := by
  intro m
  induction m with
  | zero =>
    intro k n a hk hn
    obtain ⟨n, rfl⟩ : ∃ j, n = j + 1 := ⟨n - 1, by omega⟩
    have : k = N := by omega
    subst this
    exact he n a
  | succ m ih =>
    intro k n a hk hn
    obtain ⟨n, rfl⟩ : ∃ j, n = j + 1 := ⟨n - 1, by omega⟩
    rw [hs n k a (by omega), gFo]
    exact ih (k + 1) n _ (by omega) (by omega)
theorem g_fold0 {α β : Type} {F : Nat → Nat → β → Option α} {f : Nat → β → β} {g : β → Option α} {N : Nat} (hN : N < 2147483648) (hs : ∀ n k a, k < N → F (n + 1) k a = F n (k + 1) (f k a)) (he : ∀ n a, F (n + 1) N a = g a) (a : β) : F ga_fuel 0 a = g (gFo f N 0 a) :=
  g_fold hs he N 0 ga_fuel a (by omega) (d_fuel hN)
/-! windows -/
def dWf (p : Nat → Bool) (k : Nat) (a : Int32 × Int32 × Int32) : Int32 × Int32 × Int32 := if p k = true then (if a.1 = -1 then nI k else a.1, nI k, a.2.2 + 1) else a
def dWg (a : Int32 × Int32 × Int32) : Int32 := if a.2.2 = 0 then 0 else ((a.2.1 - a.1) + 1) - a.2.2
def dWin (p : Nat → Bool) (n : Nat) : Int32 := dWg (gFo (dWf p) n 0 (-1, -1, 0))
def dGap (m : Int32) (k : Nat) : Bool := !dHb m (nI k) && (!decide ((m &&& ((1 <<< (nI k &&& 31)) - 1)) = 0) && !decide ((m >>> (nI k &&& 31)) = 0))
def dBs (b : List Bool) (k : Nat) : Bool := b.getD k false
theorem d_win_b : ∀ b0 b1 b2 b3 b4 b5 : Bool, (dWin (dBs [b0, b1, b2, b3, b4, b5]) 6 = dCt (dGap (dMs (dBs [b0, b1, b2, b3, b4, b5]) 6)) 6) ∧ (dWin (dBs [b0, b1, b2, b3, b4, b5]) 5 = dCt (dGap (dMs (dBs [b0, b1, b2, b3, b4, b5]) 5)) 5) ∧ (dWin (dBs [b0, b1, b2, b3, b4, b5]) 4 = dCt (dGap (dMs (dBs [b0, b1, b2, b3, b4, b5]) 4)) 4)
  ∧ (dWin (dBs [b0, b1, b2, b3, b4, b5]) 3 = dCt (dGap (dMs (dBs [b0, b1, b2, b3, b4, b5]) 3)) 3) ∧ (dWin (dBs [b0, b1, b2, b3, b4, b5]) 2 = dCt (dGap (dMs (dBs [b0, b1, b2, b3, b4, b5]) 2)) 2) ∧ (dWin (dBs [b0, b1, b2, b3, b4, b5]) 1 = dCt (dGap (dMs (dBs [b0, b1, b2, b3, b4, b5]) 1)) 1) := by
  decide +kernel
theorem gFo_cong {β : Type} {f g : Nat → β → β} : ∀ m k a, (∀ j a, k ≤ j → j < k + m → f j a = g j a) → gFo f m k a = gFo g m k a := by
  intro m
  induction m with
  | zero => intro k a _; rfl
  | succ m ih =>
    intro k a h
    unfold gFo
    rw [h k a (Nat.le_refl _) (by omega), ih (k + 1) _ (fun j a h1 h2 => h j a (by omega) (by omega))]
theorem dWin_cong {p q : Nat → Bool} {n : Nat} (h : ∀ j, j < n → p j = q j) : dWin p n = dWin q n := by
  unfold dWin
  rw [gFo_cong (f := dWf p) (g := dWf q) n 0 _ (fun j a _ h2 => by unfold dWf; rw [h j (by omega)])]
theorem d_win (p : Nat → Bool) {n : Nat} (h1 : 1 ≤ n) (h6 : n ≤ 6) : dWin p n = dCt (dGap (dMs p n)) n := by
  have hb : ∀ j, j < n → p j = dBs [p 0, p 1, p 2, p 3, p 4, p 5] j := by
    intro j hj
    rcases (show j = 0 ∨ j = 1 ∨ j = 2 ∨ j = 3 ∨ j = 4 ∨ j = 5 by omega) with rfl | rfl | rfl | rfl | rfl | rfl <;> rfl
  rw [dWin_cong hb, dMs_cong hb]
  obtain ⟨e6, e5, e4, e3, e2, e1⟩ := d_win_b (p 0) (p 1) (p 2) (p 3) (p 4) (p 5)
  rcases (show n = 6 ∨ n = 5 ∨ n = 4 ∨ n = 3 ∨ n = 2 ∨ n = 1 by omega) with rfl | rfl | rfl | rfl | rfl | rfl
  · exact e6
  · exact e5
  · exact e4
  · exact e3
  · exact e2
  · exact e1
theorem dm_gapsIn (hN : dWN N) (h : dM N Q P s) (m : Int32) : f_X12_gapsIn m s = some (dCt (dGap m) (N 1)) := by
  have hB := dWN_b hN
  rw [fe_X12_gapsIn]
  refine (d_fold0 (F := fun n k a => f_X12_gapsIn_h4 n m a (nI k) s) (f := dCf (dGap m)) (g := some) (N := N 1) (by omega) (fun n k a hk => ?_) (fun n a => ?_) 0)
  · simp (disch := omega) only [f_X12_gapsIn_h4, dm_has, dmN h, dm7 h, dm13 h, dm21 h, dm29 h, dm35 h, dm75 h, dm115 h, dm155 h, dm195 h, dm0 h, dm40 h, dm80 h, dm120 h, dm160 h, d_a0, d_a1, d_a7, d_a13, d_a21, d_a29, d_a35, d_a40, d_a75, d_a80, d_a115, d_a120, d_a155, d_a160, d_a195, d_r1, d_nI0, d_ix, d_cl, d_le, d_lt, d_eq, d_at, d_pt, if_false, if_true, Int32.add_zero, Option.bind_some, reduceIte, Nat.zero_add, Bool.and_eq_true, decide_eq_true_eq, decide_true, decide_false, Bool.and_true, Bool.true_and, Bool.false_and, Bool.and_false, Bool.true_eq_false, Bool.false_eq_true, false_and, and_false, true_and, and_true, d_n0, d_lef, false_or, or_false, or_self, false_and, not_true_eq_false, not_false_eq_true, ne_eq, not_true, not_false_iff, aB_0, aB_1]
    unfold dCf dGap
    cases dHb m (nI k) <;> by_cases c1 : (m &&& ((1 <<< (nI k &&& 31)) - 1)) = 0 <;> by_cases c2 : (m >>> (nI k &&& 31)) = 0 <;> simp [c1, c2]
  · simp (disch := omega) only [f_X12_gapsIn_h4, dmN h, dm7 h, dm13 h, dm21 h, dm29 h, dm35 h, dm75 h, dm115 h, dm155 h, dm195 h, dm0 h, dm40 h, dm80 h, dm120 h, dm160 h]
    rw [if_pos (nI_le (Nat.le_refl _) (by omega))]
theorem q_windows (hW : dW N Q P) (a b : Int32) : dQc N Q P (f_X11_windows a b) (f_X12_windows a b) (dK 3 3) := by
  have hN := hW.1
  have hB := dWN_b hN
  rcases d_in a (N 3) (by omega) with ⟨i, hi, rfl⟩ | ⟨_, hn⟩
  · rcases d_in b (N 0) (by omega) with ⟨j, hj, rfl⟩ | ⟨_, hn⟩
    · refine Or.inl ⟨dWin (fun k => !decide (aAt N P 1 (nI j * nI (N 1) + nI k) (nI i) = -1)) (N 1), fun s h => ?_, fun s h => ?_⟩
      · rw [fe_X11_windows]; unfold fb_X11_windows
        simp only [cT_y hN h hi, cD_y hN h hj, d_fails1, d_fails0, d_10, d_01, d_00, d_11, true_or, or_true, or_self, if_true, if_false, reduceIte, Option.elim_none, Option.elim_some, Option.bind_some, d_up_up]
        rw [fe_X3_windowsOf_23]
        have e := g_fold0 (F := fun n k (a : Int32 × Int32 × Int32) => f_X3_windowsOf_23_h12 n (nI i) (nI j) a.1 a.2.1 a.2.2 (nI k) s) (f := dWf (fun k => !decide (aAt N P 1 (nI j * nI (N 1) + nI k) (nI i) = -1))) (g := fun a => some (dWg a)) (N := N 1) (by omega) (fun n k a hk => ?_) (fun n a => ?_) (-1, -1, 0)
        · unfold fb_X3_windowsOf_23
          rw [show f_X3_windowsOf_23_h12 ga_fuel (nI i) (nI j) (-1) (-1) 0 0 s = _ from e]; rfl
        · simp (disch := omega) only [f_X3_windowsOf_23_h12, dcN h, dc3 h, dc5 h, dc7 h, dc9 h, dc11 h, dc13 h, dc15 h, dc17 h, dc19 h, dc22 h, dc24 h, dc26 h, dc28 h, dc30 h, dc_lessonAt_23 hN h, d_a0, d_a1, d_a7, d_a13, d_a21, d_a29, d_a35, d_a40, d_a75, d_a80, d_a115, d_a120, d_a155, d_a160, d_a195, d_r1, d_nI0, d_ix, d_cl, d_le, d_lt, d_eq, d_at, d_pt, if_false, if_true, Int32.add_zero, Option.bind_some, reduceIte, Nat.zero_add, Bool.and_eq_true, decide_eq_true_eq, decide_true, decide_false, Bool.and_true, Bool.true_and, Bool.false_and, Bool.and_false, Bool.true_eq_false, Bool.false_eq_true, false_and, and_false, true_and, and_true, d_n0, d_lef, false_or, or_false, or_self, false_and, not_true_eq_false, not_false_eq_true, ne_eq, not_true, not_false_iff, aB_0, aB_1]
          by_cases c1 : aAt N P 1 (nI j * nI (N 1) + nI k) (nI i) = -1 <;> by_cases c2 : a.1 = -1 <;> simp [c1, c2, dWf]
        · simp (disch := omega) only [f_X3_windowsOf_23_h12, dcN h, dc3 h, dc5 h, dc7 h, dc9 h, dc11 h, dc13 h, dc15 h, dc17 h, dc19 h, dc22 h, dc24 h, dc26 h, dc28 h, dc30 h]
          rw [if_pos (nI_le (Nat.le_refl _) (by omega))]
          unfold dWg
          split <;> rfl
      · have h0 := dM_726 h 0
        rw [fe_X12_windows]; unfold fb_X12_windows
        simp only [mT_y hN h hi, mD_y hN h hj, d_fails1, d_fails0, d_10, d_01, d_00, d_11, true_or, or_true, or_self, if_true, if_false, reduceIte, Option.elim_none, Option.elim_some, Option.bind_some, d_up_up]
        generalize ga_up s 72 6 0 = u at h0 ⊢
        clear h
        have h := h0
        rw [d_win (fun k => !decide (aAt N P 1 (nI j * nI (N 1) + nI k) (nI i) = -1)) hB.2.1.1 hB.2.1.2]
        refine (d_fold0 (F := fun n k a => f_X12_windows_h36 n (nI i) (nI j) a (nI k) u) (f := dMf (fun k => !decide (aAt N P 1 (nI j * nI (N 1) + nI k) (nI i) = -1))) (g := fun a => some (dCt (dGap a) (N 1), u)) (N := N 1) (by omega) (fun n k a hk => ?_) (fun n a => ?_) 0)
        · simp (disch := omega) only [f_X12_windows_h36, dmN h, dm7 h, dm13 h, dm21 h, dm29 h, dm35 h, dm75 h, dm115 h, dm155 h, dm195 h, dm0 h, dm40 h, dm80 h, dm120 h, dm160 h, dm_ofTeacher2 hN h, d_a0, d_a1, d_a7, d_a13, d_a21, d_a29, d_a35, d_a40, d_a75, d_a80, d_a115, d_a120, d_a155, d_a160, d_a195, d_r1, d_nI0, d_ix, d_cl, d_le, d_lt, d_eq, d_at, d_pt, if_false, if_true, Int32.add_zero, Option.bind_some, reduceIte, Nat.zero_add, Bool.and_eq_true, decide_eq_true_eq, decide_true, decide_false, Bool.and_true, Bool.true_and, Bool.false_and, Bool.and_false, Bool.true_eq_false, Bool.false_eq_true, false_and, and_false, true_and, and_true, d_n0, d_lef, false_or, or_false, or_self, false_and, not_true_eq_false, not_false_eq_true, ne_eq, not_true, not_false_iff, aB_0, aB_1]
          by_cases c1 : aAt N P 1 (nI j * nI (N 1) + nI k) (nI i) = -1 <;> simp [c1, dMf]
        · simp (disch := omega) only [f_X12_windows_h36, dmN h, dm7 h, dm13 h, dm21 h, dm29 h, dm35 h, dm75 h, dm115 h, dm155 h, dm195 h, dm0 h, dm40 h, dm80 h, dm120 h, dm160 h, dm_gapsIn hN h, Option.bind_some]
          rw [if_pos (nI_le (Nat.le_refl _) (by omega))]
    · refine Or.inr ⟨3, by decide, fun s h => ?_, fun s h => ⟨0, ?_⟩⟩
      · rw [fe_X11_windows]; unfold fb_X11_windows
        simp only [cT_y hN h hi, cD_n hN h hn, d_fails1, d_fails0, d_10, d_01, d_00, d_11, true_or, or_true, or_self, if_true, if_false, reduceIte, Option.elim_none, Option.elim_some, Option.bind_some, d_up_up]
      · rw [fe_X12_windows]; unfold fb_X12_windows
        simp only [mT_y hN h hi, mD_n hN h hn, dK_a, dK_31, dK_32, dK_34, d_fails1, d_fails0, d_10, d_01, d_00, d_11, true_or, or_true, or_self, if_true, if_false, reduceIte, Option.elim_none, Option.elim_some, Option.bind_some, d_up_up]
  · refine Or.inr ⟨3, by decide, fun s h => ?_, fun s h => ⟨0, ?_⟩⟩
    · rw [fe_X11_windows]; unfold fb_X11_windows
      simp only [cT_n hN h hn, d_fails1, d_fails0, d_10, d_01, d_00, d_11, true_or, or_true, or_self, if_true, if_false, reduceIte, Option.elim_none, Option.elim_some, Option.bind_some, d_up_up]
    · rw [fe_X12_windows]; unfold fb_X12_windows
      simp only [mT_n hN h hn, dK_a, dK_31, dK_32, dK_34, d_fails1, d_fails0, d_10, d_01, d_00, d_11, true_or, or_true, or_self, if_true, if_false, reduceIte, Option.elim_none, Option.elim_some, Option.bind_some, d_up_up]
theorem q_classWindows (hW : dW N Q P) (a b : Int32) : dQc N Q P (f_X11_classWindows a b) (f_X12_classWindows a b) (dK 3 3) := by
  have hN := hW.1
  have hB := dWN_b hN
  rcases d_in a (N 5) (by omega) with ⟨i, hi, rfl⟩ | ⟨_, hn⟩
  · rcases d_in b (N 0) (by omega) with ⟨j, hj, rfl⟩ | ⟨_, hn⟩
    · refine Or.inl ⟨dWin (fun k => !decide (aAtC N Q P (nI j * nI (N 1) + nI k) (nI i) = -1)) (N 1), fun s h => ?_, fun s h => ?_⟩
      · rw [fe_X11_classWindows]; unfold fb_X11_classWindows
        simp only [cK_y hN h hi, cD_y hN h hj, d_fails1, d_fails0, d_10, d_01, d_00, d_11, true_or, or_true, or_self, if_true, if_false, reduceIte, Option.elim_none, Option.elim_some, Option.bind_some, d_up_up]
        rw [fe_X3_windowsOf_10]
        have e := g_fold0 (F := fun n k (a : Int32 × Int32 × Int32) => f_X3_windowsOf_10_h12 n (nI i) (nI j) a.1 a.2.1 a.2.2 (nI k) s) (f := dWf (fun k => !decide (aAtC N Q P (nI j * nI (N 1) + nI k) (nI i) = -1))) (g := fun a => some (dWg a)) (N := N 1) (by omega) (fun n k a hk => ?_) (fun n a => ?_) (-1, -1, 0)
        · unfold fb_X3_windowsOf_10
          rw [show f_X3_windowsOf_10_h12 ga_fuel (nI i) (nI j) (-1) (-1) 0 0 s = _ from e]; rfl
        · simp (disch := omega) only [f_X3_windowsOf_10_h12, dcN h, dc3 h, dc5 h, dc7 h, dc9 h, dc11 h, dc13 h, dc15 h, dc17 h, dc19 h, dc22 h, dc24 h, dc26 h, dc28 h, dc30 h, dc_lessonAt_10 hN h, d_a0, d_a1, d_a7, d_a13, d_a21, d_a29, d_a35, d_a40, d_a75, d_a80, d_a115, d_a120, d_a155, d_a160, d_a195, d_r1, d_nI0, d_ix, d_cl, d_le, d_lt, d_eq, d_at, d_pt, if_false, if_true, Int32.add_zero, Option.bind_some, reduceIte, Nat.zero_add, Bool.and_eq_true, decide_eq_true_eq, decide_true, decide_false, Bool.and_true, Bool.true_and, Bool.false_and, Bool.and_false, Bool.true_eq_false, Bool.false_eq_true, false_and, and_false, true_and, and_true, d_n0, d_lef, false_or, or_false, or_self, false_and, not_true_eq_false, not_false_eq_true, ne_eq, not_true, not_false_iff, aB_0, aB_1]
          by_cases c1 : aAtC N Q P (nI j * nI (N 1) + nI k) (nI i) = -1 <;> by_cases c2 : a.1 = -1 <;> simp [c1, c2, dWf]
        · simp (disch := omega) only [f_X3_windowsOf_10_h12, dcN h, dc3 h, dc5 h, dc7 h, dc9 h, dc11 h, dc13 h, dc15 h, dc17 h, dc19 h, dc22 h, dc24 h, dc26 h, dc28 h, dc30 h]
          rw [if_pos (nI_le (Nat.le_refl _) (by omega))]
          unfold dWg
          split <;> rfl
      · have h0 := dM_726 h 0
        rw [fe_X12_classWindows]; unfold fb_X12_classWindows
        simp only [mK_y hN h hi, mD_y hN h hj, d_fails1, d_fails0, d_10, d_01, d_00, d_11, true_or, or_true, or_self, if_true, if_false, reduceIte, Option.elim_none, Option.elim_some, Option.bind_some, d_up_up]
        generalize ga_up s 72 6 0 = u at h0 ⊢
        clear h
        have h := h0
        rw [d_win (fun k => !decide (aAtC N Q P (nI j * nI (N 1) + nI k) (nI i) = -1)) hB.2.1.1 hB.2.1.2]
        refine (d_fold0 (F := fun n k a => f_X12_classWindows_h36 n (nI i) (nI j) a (nI k) u) (f := dMf (fun k => !decide (aAtC N Q P (nI j * nI (N 1) + nI k) (nI i) = -1))) (g := fun a => some (dCt (dGap a) (N 1), u)) (N := N 1) (by omega) (fun n k a hk => ?_) (fun n a => ?_) 0)
        · simp (disch := omega) only [f_X12_classWindows_h36, dmN h, dm7 h, dm13 h, dm21 h, dm29 h, dm35 h, dm75 h, dm115 h, dm155 h, dm195 h, dm0 h, dm40 h, dm80 h, dm120 h, dm160 h, dm_ofClass hN h, d_a0, d_a1, d_a7, d_a13, d_a21, d_a29, d_a35, d_a40, d_a75, d_a80, d_a115, d_a120, d_a155, d_a160, d_a195, d_r1, d_nI0, d_ix, d_cl, d_le, d_lt, d_eq, d_at, d_pt, if_false, if_true, Int32.add_zero, Option.bind_some, reduceIte, Nat.zero_add, Bool.and_eq_true, decide_eq_true_eq, decide_true, decide_false, Bool.and_true, Bool.true_and, Bool.false_and, Bool.and_false, Bool.true_eq_false, Bool.false_eq_true, false_and, and_false, true_and, and_true, d_n0, d_lef, false_or, or_false, or_self, false_and, not_true_eq_false, not_false_eq_true, ne_eq, not_true, not_false_iff, aB_0, aB_1]
          by_cases c1 : aAtC N Q P (nI j * nI (N 1) + nI k) (nI i) = -1 <;> simp [c1, dMf]
        · simp (disch := omega) only [f_X12_classWindows_h36, dmN h, dm7 h, dm13 h, dm21 h, dm29 h, dm35 h, dm75 h, dm115 h, dm155 h, dm195 h, dm0 h, dm40 h, dm80 h, dm120 h, dm160 h, dm_gapsIn hN h, Option.bind_some]
          rw [if_pos (nI_le (Nat.le_refl _) (by omega))]
    · refine Or.inr ⟨3, by decide, fun s h => ?_, fun s h => ⟨0, ?_⟩⟩
      · rw [fe_X11_classWindows]; unfold fb_X11_classWindows
        simp only [cK_y hN h hi, cD_n hN h hn, d_fails1, d_fails0, d_10, d_01, d_00, d_11, true_or, or_true, or_self, if_true, if_false, reduceIte, Option.elim_none, Option.elim_some, Option.bind_some, d_up_up]
      · rw [fe_X12_classWindows]; unfold fb_X12_classWindows
        simp only [mK_y hN h hi, mD_n hN h hn, dK_a, dK_31, dK_32, dK_34, d_fails1, d_fails0, d_10, d_01, d_00, d_11, true_or, or_true, or_self, if_true, if_false, reduceIte, Option.elim_none, Option.elim_some, Option.bind_some, d_up_up]
  · refine Or.inr ⟨3, by decide, fun s h => ?_, fun s h => ⟨0, ?_⟩⟩
    · rw [fe_X11_classWindows]; unfold fb_X11_classWindows
      simp only [cK_n hN h hn, d_fails1, d_fails0, d_10, d_01, d_00, d_11, true_or, or_true, or_self, if_true, if_false, reduceIte, Option.elim_none, Option.elim_some, Option.bind_some, d_up_up]
    · rw [fe_X12_classWindows]; unfold fb_X12_classWindows
      simp only [mK_n hN h hn, dK_a, dK_31, dK_32, dK_34, d_fails1, d_fails0, d_10, d_01, d_00, d_11, true_or, or_true, or_self, if_true, if_false, reduceIte, Option.elim_none, Option.elim_some, Option.bind_some, d_up_up]
theorem dm_subj2 (hN : dWN N) (h : dM N Q P s) (i : Nat) (b m : Int32) : f_X12_subject_h128 ga_fuel (nI i) b m 0 0 s = some (if b = 1 then m else dCt (fun k => decide (Q 6 k = nI i)) (N 6), s) := by
  have hB := dWN_b hN
  refine (d_fold0 (F := fun n k a => f_X12_subject_h128 n (nI i) b m a (nI k) s) (f := dCf (fun k => decide (Q 6 k = nI i))) (g := fun a => some (if b = 1 then m else a, s)) (N := N 6) (by omega) (fun n k a hk => ?_) (fun n a => ?_) 0)
  · simp (disch := omega) only [f_X12_subject_h128, dmN h, dm7 h, dm13 h, dm21 h, dm29 h, dm35 h, dm75 h, dm115 h, dm155 h, dm195 h, dm0 h, dm40 h, dm80 h, dm120 h, dm160 h, d_a0, d_a1, d_a7, d_a13, d_a21, d_a29, d_a35, d_a40, d_a75, d_a80, d_a115, d_a120, d_a155, d_a160, d_a195, d_r1, d_nI0, d_ix, d_cl, d_le, d_lt, d_eq, d_at, d_pt, if_false, if_true, Int32.add_zero, Option.bind_some, reduceIte, Nat.zero_add, Bool.and_eq_true, decide_eq_true_eq, decide_true, decide_false, Bool.and_true, Bool.true_and, Bool.false_and, Bool.and_false, Bool.true_eq_false, Bool.false_eq_true, false_and, and_false, true_and, and_true, d_n0, d_lef, false_or, or_false, or_self, false_and, not_true_eq_false, not_false_eq_true, ne_eq, not_true, not_false_iff, aB_0, aB_1]
    by_cases c1 : Q 6 k = nI i <;> simp [c1, dCf]
  · simp (disch := omega) only [f_X12_subject_h128, dmN h, dm7 h, dm13 h, dm21 h, dm29 h, dm35 h, dm75 h, dm115 h, dm155 h, dm195 h, dm0 h, dm40 h, dm80 h, dm120 h, dm160 h]
    rw [if_pos (nI_le (Nat.le_refl _) (by omega))]
    split <;> rfl
theorem dm_subj (hN : dWN N) (h : dM N Q P s) (i : Nat) (b : Int32) : f_X12_subject_h77 ga_fuel (nI i) b 0 0 s = some (if b = 1 then dMs (fun k => dHb (Q 3 k) (nI i)) (N 3) else dCt (fun k => decide (Q 6 k = nI i)) (N 6), s) := by
  have hB := dWN_b hN
  refine (d_fold0 (F := fun n k a => f_X12_subject_h77 n (nI i) b a (nI k) s) (f := dMf (fun k => dHb (Q 3 k) (nI i))) (g := fun m => some (if b = 1 then m else dCt (fun k => decide (Q 6 k = nI i)) (N 6), s)) (N := N 3) (by omega) (fun n k a hk => ?_) (fun n a => ?_) 0)
  · simp (disch := omega) only [f_X12_subject_h77, dmN h, dm7 h, dm13 h, dm21 h, dm29 h, dm35 h, dm75 h, dm115 h, dm155 h, dm195 h, dm0 h, dm40 h, dm80 h, dm120 h, dm160 h, dm_has, d_a0, d_a1, d_a7, d_a13, d_a21, d_a29, d_a35, d_a40, d_a75, d_a80, d_a115, d_a120, d_a155, d_a160, d_a195, d_r1, d_nI0, d_ix, d_cl, d_le, d_lt, d_eq, d_at, d_pt, if_false, if_true, Int32.add_zero, Option.bind_some, reduceIte, Nat.zero_add, Bool.and_eq_true, decide_eq_true_eq, decide_true, decide_false, Bool.and_true, Bool.true_and, Bool.false_and, Bool.and_false, Bool.true_eq_false, Bool.false_eq_true, false_and, and_false, true_and, and_true, d_n0, d_lef, false_or, or_false, or_self, false_and, not_true_eq_false, not_false_eq_true, ne_eq, not_true, not_false_iff, aB_0, aB_1]
    cases c1 : dHb (Q 3 k) (nI i) <;> simp [c1, dMf]
  · simp (disch := omega) only [f_X12_subject_h77, dmN h, dm7 h, dm13 h, dm21 h, dm29 h, dm35 h, dm75 h, dm115 h, dm155 h, dm195 h, dm0 h, dm40 h, dm80 h, dm120 h, dm160 h, dm_subj2 hN h]
    rw [if_pos (nI_le (Nat.le_refl _) (by omega))]
theorem q_subject (hW : dW N Q P) (a b : Int32) : dQc N Q P (f_X11_subject a b) (f_X12_subject a b) (dK 3 2) := by
  have hN := hW.1
  have hB := dWN_b hN
  have hno2 : ∀ t : ga_M, b ≠ 0 → b ≠ 1 → b ≠ 2 → v_X12_in b.toInt64 (0 : Int32).toInt64 (2 : Int32).toInt64 t = 0 := fun t h0 h1 h2 => dm_inN (n := 3) (K := 2) (by omega) rfl (fun j hj => by
    rcases (show j = 0 ∨ j = 1 ∨ j = 2 by omega) with rfl | rfl | rfl
    · exact h0
    · exact h1
    · exact h2)
  rcases d_in a (N 2) (by omega) with ⟨i, hi, rfl⟩ | ⟨hr, hno⟩
  · have hin : ∀ t : ga_M, v_X12_in (nI i).toInt64 (0 : Int32).toInt64 (nI (N 2) - 1 : Int32).toInt64 t = 1 := fun t => dm_inL (x := 0) (by omega) hi
    have hi3 : i < 31 := by omega
    by_cases b0 : b = 0
    · refine Or.inl ⟨Q 1 i, fun s h => ?_, fun s h => ?_⟩
      · rw [fe_X11_subject]; unfold fb_X11_subject
        simp (disch := omega) only [b0, hi, dcN h, dc3 h, dc5 h, dc7 h, dc9 h, dc11 h, dc13 h, dc15 h, dc17 h, dc19 h, dc22 h, dc24 h, dc26 h, dc28 h, dc30 h, d_fails1, d_fails0, d_10, d_01, d_00, d_11, true_or, or_true, or_self, if_true, if_false, reduceIte, Option.elim_none, Option.elim_some, Option.bind_some, d_up_up, d_a0, d_a1, d_a7, d_a13, d_a21, d_a29, d_a35, d_a40, d_a75, d_a80, d_a115, d_a120, d_a155, d_a160, d_a195, d_r1, d_nI0, d_ix, d_cl, d_le, d_lt, d_eq, d_at, d_pt, if_false, if_true, Int32.add_zero, Option.bind_some, reduceIte, Nat.zero_add, Bool.and_eq_true, decide_eq_true_eq, decide_true, decide_false, Bool.and_true, Bool.true_and, Bool.false_and, Bool.and_false, Bool.true_eq_false, Bool.false_eq_true, false_and, and_false, true_and, and_true, d_n0, d_lef, false_or, or_false, or_self, false_and, not_true_eq_false, not_false_eq_true, ne_eq, not_true, not_false_iff, aB_0, aB_1]
      · have h0 := dM_726 h 0
        have hi2 : ∀ t : ga_M, v_X12_in b.toInt64 (0 : Int32).toInt64 (2 : Int32).toInt64 t = 1 := fun t => dm_inY (n := 3) (K := 2) (by omega) rfl ⟨0, by omega, b0⟩
        rw [fe_X12_subject]; unfold fb_X12_subject
        rw [dmN h (by decide)]
        simp only [hin, hi2, d_fails1, d_fails0, d_10, d_01, d_00, d_11, true_or, or_true, or_self, if_true, if_false, reduceIte, Option.elim_none, Option.elim_some, Option.bind_some, d_up_up]
        generalize ga_up s 72 6 0 = u at h0 ⊢
        clear h
        have h := h0
        simp (disch := omega) only [b0, dmN h, dm7 h, dm13 h, dm21 h, dm29 h, dm35 h, dm75 h, dm115 h, dm155 h, dm195 h, dm0 h, dm40 h, dm80 h, dm120 h, dm160 h, d_fails1, d_fails0, d_10, d_01, d_00, d_11, true_or, or_true, or_self, if_true, if_false, reduceIte, Option.elim_none, Option.elim_some, Option.bind_some, d_up_up, d_a0, d_a1, d_a7, d_a13, d_a21, d_a29, d_a35, d_a40, d_a75, d_a80, d_a115, d_a120, d_a155, d_a160, d_a195, d_r1, d_nI0, d_ix, d_cl, d_le, d_lt, d_eq, d_at, d_pt, if_false, if_true, Int32.add_zero, Option.bind_some, reduceIte, Nat.zero_add, Bool.and_eq_true, decide_eq_true_eq, decide_true, decide_false, Bool.and_true, Bool.true_and, Bool.false_and, Bool.and_false, Bool.true_eq_false, Bool.false_eq_true, false_and, and_false, true_and, and_true, d_n0, d_lef, false_or, or_false, or_self, false_and, not_true_eq_false, not_false_eq_true, ne_eq, not_true, not_false_iff, aB_0, aB_1]
    by_cases b1 : b = 1
    · refine Or.inl ⟨dMs (fun k => dHb (Q 3 k) (nI i)) (N 3), fun s h => ?_, fun s h => ?_⟩
      · rw [fe_X11_subject]; unfold fb_X11_subject
        simp (disch := omega) only [b1, hi, dcN h, dc3 h, dc5 h, dc7 h, dc9 h, dc11 h, dc13 h, dc15 h, dc17 h, dc19 h, dc22 h, dc24 h, dc26 h, dc28 h, dc30 h, dc_qualifiedFor hN h hi3, d_fails1, d_fails0, d_10, d_01, d_00, d_11, true_or, or_true, or_self, if_true, if_false, reduceIte, Option.elim_none, Option.elim_some, Option.bind_some, d_up_up, d_a0, d_a1, d_a7, d_a13, d_a21, d_a29, d_a35, d_a40, d_a75, d_a80, d_a115, d_a120, d_a155, d_a160, d_a195, d_r1, d_nI0, d_ix, d_cl, d_le, d_lt, d_eq, d_at, d_pt, if_false, if_true, Int32.add_zero, Option.bind_some, reduceIte, Nat.zero_add, Bool.and_eq_true, decide_eq_true_eq, decide_true, decide_false, Bool.and_true, Bool.true_and, Bool.false_and, Bool.and_false, Bool.true_eq_false, Bool.false_eq_true, false_and, and_false, true_and, and_true, d_n0, d_lef, false_or, or_false, or_self, false_and, not_true_eq_false, not_false_eq_true, ne_eq, not_true, not_false_iff, aB_0, aB_1]
      · have h0 := dM_726 h 0
        have hi2 : ∀ t : ga_M, v_X12_in b.toInt64 (0 : Int32).toInt64 (2 : Int32).toInt64 t = 1 := fun t => dm_inY (n := 3) (K := 2) (by omega) rfl ⟨1, by omega, b1⟩
        rw [fe_X12_subject]; unfold fb_X12_subject
        rw [dmN h (by decide)]
        simp only [hin, hi2, d_fails1, d_fails0, d_10, d_01, d_00, d_11, true_or, or_true, or_self, if_true, if_false, reduceIte, Option.elim_none, Option.elim_some, Option.bind_some, d_up_up]
        generalize ga_up s 72 6 0 = u at h0 ⊢
        clear h
        have h := h0
        simp (disch := omega) only [b1, dm_subj hN h, d_fails1, d_fails0, d_10, d_01, d_00, d_11, true_or, or_true, or_self, if_true, if_false, reduceIte, Option.elim_none, Option.elim_some, Option.bind_some, d_up_up, d_a0, d_a1, d_a7, d_a13, d_a21, d_a29, d_a35, d_a40, d_a75, d_a80, d_a115, d_a120, d_a155, d_a160, d_a195, d_r1, d_nI0, d_ix, d_cl, d_le, d_lt, d_eq, d_at, d_pt, if_false, if_true, Int32.add_zero, Option.bind_some, reduceIte, Nat.zero_add, Bool.and_eq_true, decide_eq_true_eq, decide_true, decide_false, Bool.and_true, Bool.true_and, Bool.false_and, Bool.and_false, Bool.true_eq_false, Bool.false_eq_true, false_and, and_false, true_and, and_true, d_n0, d_lef, false_or, or_false, or_self, false_and, not_true_eq_false, not_false_eq_true, ne_eq, not_true, not_false_iff, aB_0, aB_1]
    by_cases b2 : b = 2
    · refine Or.inl ⟨dCt (fun k => decide (Q 6 k = nI i)) (N 6), fun s h => ?_, fun s h => ?_⟩
      · rw [fe_X11_subject]; unfold fb_X11_subject
        simp +decide (disch := omega) only [hi, b2, dcN h, dc3 h, dc5 h, dc7 h, dc9 h, dc11 h, dc13 h, dc15 h, dc17 h, dc19 h, dc22 h, dc24 h, dc26 h, dc28 h, dc30 h, dc_with_12 hN h, d_fails1, d_fails0, d_10, d_01, d_00, d_11, true_or, or_true, or_self, if_true, if_false, reduceIte, Option.elim_none, Option.elim_some, Option.bind_some, d_up_up, d_a0, d_a1, d_a7, d_a13, d_a21, d_a29, d_a35, d_a40, d_a75, d_a80, d_a115, d_a120, d_a155, d_a160, d_a195, d_r1, d_nI0, d_ix, d_cl, d_le, d_lt, d_eq, d_at, d_pt, if_false, if_true, Int32.add_zero, Option.bind_some, reduceIte, Nat.zero_add, Bool.and_eq_true, decide_eq_true_eq, decide_true, decide_false, Bool.and_true, Bool.true_and, Bool.false_and, Bool.and_false, Bool.true_eq_false, Bool.false_eq_true, false_and, and_false, true_and, and_true, d_n0, d_lef, false_or, or_false, or_self, false_and, not_true_eq_false, not_false_eq_true, ne_eq, not_true, not_false_iff, aB_0, aB_1]
      · have h0 := dM_726 h 0
        have hi2 : ∀ t : ga_M, v_X12_in b.toInt64 (0 : Int32).toInt64 (2 : Int32).toInt64 t = 1 := fun t => dm_inY (n := 3) (K := 2) (by omega) rfl ⟨2, by omega, b2⟩
        rw [fe_X12_subject]; unfold fb_X12_subject
        rw [dmN h (by decide)]
        simp only [hin, hi2, d_fails1, d_fails0, d_10, d_01, d_00, d_11, true_or, or_true, or_self, if_true, if_false, reduceIte, Option.elim_none, Option.elim_some, Option.bind_some, d_up_up]
        generalize ga_up s 72 6 0 = u at h0 ⊢
        clear h
        have h := h0
        simp (disch := omega) only [b0, b1, dm_subj hN h, d_fails1, d_fails0, d_10, d_01, d_00, d_11, true_or, or_true, or_self, if_true, if_false, reduceIte, Option.elim_none, Option.elim_some, Option.bind_some, d_up_up, d_a0, d_a1, d_a7, d_a13, d_a21, d_a29, d_a35, d_a40, d_a75, d_a80, d_a115, d_a120, d_a155, d_a160, d_a195, d_r1, d_nI0, d_ix, d_cl, d_le, d_lt, d_eq, d_at, d_pt, if_false, if_true, Int32.add_zero, Option.bind_some, reduceIte, Nat.zero_add, Bool.and_eq_true, decide_eq_true_eq, decide_true, decide_false, Bool.and_true, Bool.true_and, Bool.false_and, Bool.and_false, Bool.true_eq_false, Bool.false_eq_true, false_and, and_false, true_and, and_true, d_n0, d_lef, false_or, or_false, or_self, false_and, not_true_eq_false, not_false_eq_true, ne_eq, not_true, not_false_iff, aB_0, aB_1]
    · refine Or.inr ⟨2, by decide, fun s h => ?_, fun s h => ⟨0, ?_⟩⟩
      · rw [fe_X11_subject]; unfold fb_X11_subject
        simp (disch := omega) only [b0, b1, b2, hi, dcN h, dc3 h, dc5 h, dc7 h, dc9 h, dc11 h, dc13 h, dc15 h, dc17 h, dc19 h, dc22 h, dc24 h, dc26 h, dc28 h, dc30 h, d_fails1, d_fails0, d_10, d_01, d_00, d_11, true_or, or_true, or_self, if_true, if_false, reduceIte, Option.elim_none, Option.elim_some, Option.bind_some, d_up_up, d_a0, d_a1, d_a7, d_a13, d_a21, d_a29, d_a35, d_a40, d_a75, d_a80, d_a115, d_a120, d_a155, d_a160, d_a195, d_r1, d_nI0, d_ix, d_cl, d_le, d_lt, d_eq, d_at, d_pt, if_false, if_true, Int32.add_zero, Option.bind_some, reduceIte, Nat.zero_add, Bool.and_eq_true, decide_eq_true_eq, decide_true, decide_false, Bool.and_true, Bool.true_and, Bool.false_and, Bool.and_false, Bool.true_eq_false, Bool.false_eq_true, false_and, and_false, true_and, and_true, d_n0, d_lef, false_or, or_false, or_self, false_and, not_true_eq_false, not_false_eq_true, ne_eq, not_true, not_false_iff, aB_0, aB_1]
      · rw [fe_X12_subject]; unfold fb_X12_subject
        rw [dmN h (by decide)]
        simp only [hin, hno2 _ b0 b1 b2, dK_a, dK_31, dK_32, dK_34, d_fails1, d_fails0, d_10, d_01, d_00, d_11, true_or, or_true, or_self, if_true, if_false, reduceIte, Option.elim_none, Option.elim_some, Option.bind_some, d_up_up]
  · have hin : ∀ t : ga_M, v_X12_in a.toInt64 (0 : Int32).toInt64 (nI (N 2) - 1 : Int32).toInt64 t = 0 := fun t => dm_inM (by omega) hno
    refine Or.inr ⟨3, by decide, fun s h => ?_, fun s h => ⟨0, ?_⟩⟩
    · rw [fe_X11_subject]; unfold fb_X11_subject
      rw [dcN h (by decide)]
      rcases hr with hr | hr
      · rw [if_pos hr]
      · rw [if_neg (Int32.not_lt.mpr hr)]
        split <;> rfl
    · rw [fe_X12_subject]; unfold fb_X12_subject
      rw [dmN h (by decide)]
      simp only [hin, dK_a, dK_31, dK_32, dK_34, d_fails1, d_fails0, d_10, d_01, d_00, d_11, true_or, or_true, or_self, if_true, if_false, reduceIte, Option.elim_none, Option.elim_some, Option.bind_some, d_up_up]
end D21
