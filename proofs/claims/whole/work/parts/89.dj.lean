section D19
variable {N : Nat → Nat} {Q P : Nat → Nat → Int32} {s : ga_M}
theorem dm_in2 {n : Nat} (hn : n < 2147483648) {K : Int32} (hK : nI n - 1 = K) (x : Int32) : v_X12_in x.toInt64 (0 : Int32).toInt64 K.toInt64 s = aB (decide (∃ j, j < n ∧ x = nI j)) := by
  subst hK; exact dm_in hn x
theorem d_what2 (x : Int32) : (x = 0 ∨ x = 1) ∨ ∀ j, j < 2 → x ≠ nI j := by
  rcases d_in x 2 (by omega) with ⟨j, hj, rfl⟩ | ⟨_, h⟩
  · left
    rcases (show j = 0 ∨ j = 1 by omega) with rfl | rfl <;> decide
  · exact Or.inr h
theorem d_what3 (x : Int32) : (x = 0 ∨ x = 1 ∨ x = 2) ∨ ∀ j, j < 3 → x ≠ nI j := by
  rcases d_in x 3 (by omega) with ⟨j, hj, rfl⟩ | ⟨_, h⟩
  · left
    rcases (show j = 0 ∨ j = 1 ∨ j = 2 by omega) with rfl | rfl | rfl <;> decide
  · exact Or.inr h
theorem d_what4 (x : Int32) : (x = 0 ∨ x = 1 ∨ x = 2 ∨ x = 3) ∨ ∀ j, j < 4 → x ≠ nI j := by
  rcases d_in x 4 (by omega) with ⟨j, hj, rfl⟩ | ⟨_, h⟩
  · left
    rcases (show j = 0 ∨ j = 1 ∨ j = 2 ∨ j = 3 by omega) with rfl | rfl | rfl | rfl <;> decide
  · exact Or.inr h
theorem d_what7 (x : Int32) : (x = 0 ∨ x = 1 ∨ x = 2 ∨ x = 3 ∨ x = 4 ∨ x = 5 ∨ x = 6) ∨ ∀ j, j < 7 → x ≠ nI j := by
  rcases d_in x 7 (by omega) with ⟨j, hj, rfl⟩ | ⟨_, h⟩
  · left
    rcases (show j = 0 ∨ j = 1 ∨ j = 2 ∨ j = 3 ∨ j = 4 ∨ j = 5 ∨ j = 6 by omega) with rfl | rfl | rfl | rfl | rfl | rfl | rfl <;> decide
  · exact Or.inr h
theorem d_what10 (x : Int32) : (x = 0 ∨ x = 1 ∨ x = 2 ∨ x = 3 ∨ x = 4 ∨ x = 5 ∨ x = 6 ∨ x = 7 ∨ x = 8 ∨ x = 9) ∨ ∀ j, j < 10 → x ≠ nI j := by
  rcases d_in x 10 (by omega) with ⟨j, hj, rfl⟩ | ⟨_, h⟩
  · left
    rcases (show j = 0 ∨ j = 1 ∨ j = 2 ∨ j = 3 ∨ j = 4 ∨ j = 5 ∨ j = 6 ∨ j = 7 ∨ j = 8 ∨ j = 9 by omega) with rfl | rfl | rfl | rfl | rfl | rfl | rfl | rfl | rfl | rfl <;> decide
  · exact Or.inr h
theorem d_le3 (x : Int32) {n : Nat} (hn : n = 4) : (if x < 0 then (0 : Int32) else if x ≤ 3 then 1 else 0) = aB (decide (∃ j, j < n ∧ x = nI j)) := by
  subst hn
  rw [← d_has 4 (by omega) x]
  by_cases c : x < 0
  · rw [if_pos c, if_pos c]
  · rw [if_neg c, if_neg c]
    by_cases c2 : x ≤ 3
    · rw [if_pos c2, if_neg (fun h => by
        rw [Int32.le_iff_toInt_le] at c2 h
        have h1 : (nI 4).toInt = 4 := rfl
        have h2 : (3 : Int32).toInt = 3 := rfl
        omega)]
    · rw [if_neg c2, if_pos (by
        rw [Int32.le_iff_toInt_le] at c2 ⊢
        have h1 : (nI 4).toInt = 4 := rfl
        have h2 : (3 : Int32).toInt = 3 := rfl
        omega)]
theorem q_freeRooms (hW : dW N Q P) (a b : Int32) : dQc N Q P (f_X11_freeRooms a b) (f_X12_freeRooms a b) (dK 3 2) := by
  have hN := hW.1
  have hB := dWN_b hN
  rcases d_in a (dSl N) (by omega) with ⟨i, hi, rfl⟩ | ⟨_, hn⟩
  · by_cases hb : ∃ j, j < 4 ∧ b = nI j
    · have e1 : ¬ b < 0 ∧ b ≤ 3 := by
        obtain ⟨j, hj, rfl⟩ := hb
        exact ⟨nI_pos (by omega), nI_le (b := 3) (by omega) (by omega)⟩
      refine Or.inl ⟨dMs (fun k => decide (Q 4 k = b) && decide (aAt N P 2 (nI i) (nI k) = -1)) (N 4), fun s h => ?_, fun s h => ?_⟩
      · rw [fe_X11_freeRooms]; unfold fb_X11_freeRooms
        simp only [cS_y hN h hi, e1.1, e1.2, d_fails1, d_fails0, d_10, d_01, d_00, d_11, true_or, or_true, or_self, if_true, if_false, reduceIte, Option.elim_none, Option.elim_some, Option.bind_some, d_up_up]
        refine (d_fold0 (F := fun n k a => f_X11_freeRooms_h30 n (nI i) b a (nI k) s) (f := dMf (fun k => decide (Q 4 k = b) && decide (aAt N P 2 (nI i) (nI k) = -1))) (g := fun a => some (.inl a)) (N := N 4) (by omega) (fun n k a hk => ?_) (fun n a => ?_) 0)
        · simp (disch := omega) only [f_X11_freeRooms_h30, dcN h, dc3 h, dc5 h, dc7 h, dc9 h, dc11 h, dc13 h, dc15 h, dc17 h, dc19 h, dc22 h, dc24 h, dc26 h, dc28 h, dc30 h, dc_lessonAt_25 hN h, d_a0, d_a1, d_a7, d_a13, d_a21, d_a29, d_a35, d_a40, d_a75, d_a80, d_a115, d_a120, d_a155, d_a160, d_a195, d_r1, d_nI0, d_ix, d_cl, d_le, d_lt, d_eq, d_at, d_pt, if_false, if_true, Int32.add_zero, Option.bind_some, reduceIte, Nat.zero_add, Bool.and_eq_true, decide_eq_true_eq, decide_true, decide_false, Bool.and_true, Bool.true_and, Bool.false_and, Bool.and_false, Bool.true_eq_false, Bool.false_eq_true, false_and, and_false, true_and, and_true, d_n0, d_lef, false_or, or_false, or_self, false_and, not_true_eq_false, not_false_eq_true, ne_eq, not_true, not_false_iff, aB_0, aB_1]
          by_cases c0 : Q 4 k = b <;> by_cases c1 : aAt N P 2 (nI i) (nI k) = -1 <;> simp [c0, c1, dMf]
        · simp (disch := omega) only [f_X11_freeRooms_h30, dcN h, dc3 h, dc5 h, dc7 h, dc9 h, dc11 h, dc13 h, dc15 h, dc17 h, dc19 h, dc22 h, dc24 h, dc26 h, dc28 h, dc30 h]
          rw [if_pos (nI_le (Nat.le_refl _) (by omega))]
      · have h0 := dM_726 h 0
        rw [fe_X12_freeRooms]; unfold fb_X12_freeRooms
        simp only [mS_y hN h hi, dm_in2 (n := 4) (K := 3) (by omega) rfl, decide_eq_true hb, show aB true = 1 from rfl, d_fails1, d_fails0, d_10, d_01, d_00, d_11, true_or, or_true, or_self, if_true, if_false, reduceIte, Option.elim_none, Option.elim_some, Option.bind_some, d_up_up]
        generalize ga_up s 72 6 0 = u at h0 ⊢
        clear h
        have h := h0
        refine (d_fold0 (F := fun n k a => f_X12_freeRooms_h53 n (nI i) b a (nI k) u) (f := dMf (fun k => decide (Q 4 k = b) && decide (aAt N P 2 (nI i) (nI k) = -1))) (g := fun a => some (a, u)) (N := N 4) (by omega) (fun n k a hk => ?_) (fun n a => ?_) 0)
        · simp (disch := omega) only [f_X12_freeRooms_h53, dmN h, dm7 h, dm13 h, dm21 h, dm29 h, dm35 h, dm75 h, dm115 h, dm155 h, dm195 h, dm0 h, dm40 h, dm80 h, dm120 h, dm160 h, dm_inRoom hN h, d_a0, d_a1, d_a7, d_a13, d_a21, d_a29, d_a35, d_a40, d_a75, d_a80, d_a115, d_a120, d_a155, d_a160, d_a195, d_r1, d_nI0, d_ix, d_cl, d_le, d_lt, d_eq, d_at, d_pt, if_false, if_true, Int32.add_zero, Option.bind_some, reduceIte, Nat.zero_add, Bool.and_eq_true, decide_eq_true_eq, decide_true, decide_false, Bool.and_true, Bool.true_and, Bool.false_and, Bool.and_false, Bool.true_eq_false, Bool.false_eq_true, false_and, and_false, true_and, and_true, d_n0, d_lef, false_or, or_false, or_self, false_and, not_true_eq_false, not_false_eq_true, ne_eq, not_true, not_false_iff, aB_0, aB_1]
          by_cases c0 : Q 4 k = b <;> by_cases c1 : aAt N P 2 (nI i) (nI k) = -1 <;> simp [c0, c1, dMf]
        · simp (disch := omega) only [f_X12_freeRooms_h53, dmN h, dm7 h, dm13 h, dm21 h, dm29 h, dm35 h, dm75 h, dm115 h, dm155 h, dm195 h, dm0 h, dm40 h, dm80 h, dm120 h, dm160 h]
          rw [if_pos (nI_le (Nat.le_refl _) (by omega))]
    · refine Or.inr ⟨2, by decide, fun s h => ?_, fun s h => ⟨0, ?_⟩⟩
      · rw [fe_X11_freeRooms]; unfold fb_X11_freeRooms
        simp only [cS_y hN h hi, d_fails1, d_fails0, d_10, d_01, d_00, d_11, true_or, or_true, or_self, if_true, if_false, reduceIte, Option.elim_none, Option.elim_some, Option.bind_some, d_up_up]
        have e := d_le3 b (n := 4) rfl
        rw [decide_eq_false hb] at e
        split
        · rfl
        · rename_i c
          rw [if_neg c] at e
          split
          · rename_i c2
            rw [if_pos c2] at e
            cases e
          · rfl
      · rw [fe_X12_freeRooms]; unfold fb_X12_freeRooms
        simp only [mS_y hN h hi, dm_in2 (n := 4) (K := 3) (by omega) rfl, decide_eq_false hb, show aB false = 0 from rfl, dK_a, dK_31, dK_32, dK_34, d_fails1, d_fails0, d_10, d_01, d_00, d_11, true_or, or_true, or_self, if_true, if_false, reduceIte, Option.elim_none, Option.elim_some, Option.bind_some, d_up_up]
  · refine Or.inr ⟨3, by decide, fun s h => ?_, fun s h => ⟨0, ?_⟩⟩
    · rw [fe_X11_freeRooms]; unfold fb_X11_freeRooms
      simp only [cS_n hN h hn, d_fails1, d_fails0, d_10, d_01, d_00, d_11, true_or, or_true, or_self, if_true, if_false, reduceIte, Option.elim_none, Option.elim_some, Option.bind_some, d_up_up]
    · rw [fe_X12_freeRooms]; unfold fb_X12_freeRooms
      simp only [mS_n hN h hn, dK_a, dK_31, dK_32, dK_34, d_fails1, d_fails0, d_10, d_01, d_00, d_11, true_or, or_true, or_self, if_true, if_false, reduceIte, Option.elim_none, Option.elim_some, Option.bind_some, d_up_up]
/-- the one before which so many stand -/
def dNth (p : Nat → Bool) : Nat → Nat → Int32 → Int32
  | 0, _, _ => -1
  | m + 1, k, a => if p k = true then (if a = 0 then nI k else dNth p m (k + 1) (a + (-1))) else dNth p m (k + 1) a
theorem d_i4 (a b : Int32) : (b = a) = (a - b = 0) := by
  apply propext
  constructor
  · rintro rfl; simp
  · intro h
    apply Int32.toBitVec_inj.mp
    have := congrArg Int32.toBitVec h
    rw [Int32.toBitVec_sub, show Int32.toBitVec 0 = 0#32 from rfl] at this
    bv_omega
theorem d_i5 (a b : Int32) : a - (b + 1) = (a - b) + (-1) := by
  apply Int32.toBitVec_inj.mp; simp only [Int32.toBitVec_sub, Int32.toBitVec_add, Int32.toBitVec_neg]; bv_omega
theorem d_nthC {F : Nat → Int32 → Nat → Option (Int32 ⊕ Nat)} {p : Nat → Bool} {N e : Nat} {a : Int32} (hN : N < 2147483648)
    (hs : ∀ n b k, k < N → F (n + 1) b k = if p k = true then (if b = a then some (.inl (nI k)) else F n (b + 1) (k + 1)) else F n b (k + 1)) (he : ∀ n b, F (n + 1) b N = some (.inr e)) :
    ∀ m k n b, k + m = N → m < n → F n b k = some (if dNth p m k (a - b) = -1 then .inr e else .inl (dNth p m k (a - b))) := by
  intro m
  induction m with
  | zero =>
    intro k n b hk hn
    obtain ⟨n, rfl⟩ : ∃ j, n = j + 1 := ⟨n - 1, by omega⟩
    have : k = N := by omega
    subst this
    exact he n b
  | succ m ih =>
    intro k n b hk hn
    obtain ⟨n, rfl⟩ : ∃ j, n = j + 1 := ⟨n - 1, by omega⟩
    rw [hs n b k (by omega)]
    by_cases hp : p k = true
    · rw [if_pos hp, dNth, if_pos hp]
      by_cases c : a - b = 0
      · have c2 : b = a := by rw [d_i4]; exact c
        rw [if_pos c, if_pos c2, if_neg (d_ne1 (by omega))]
      · have c2 : ¬ b = a := by rw [d_i4]; exact c
        rw [if_neg c, if_neg c2, ← d_i5]
        exact ih (k + 1) n _ (by omega) (by omega)
    · rw [if_neg hp, dNth, if_neg hp]
      exact ih (k + 1) n _ (by omega) (by omega)
theorem d_nthM {F : Nat → Int32 → Nat → Option Int32} {p : Nat → Bool} {N : Nat}
    (hs : ∀ n b k, k < N → F (n + 1) b k = if p k = true then (if b = 0 then some (nI k) else F n (b + (-1)) (k + 1)) else F n b (k + 1)) (he : ∀ n b, F (n + 1) b N = some (-1)) :
    ∀ m k n b, k + m = N → m < n → F n b k = some (dNth p m k b) := by
  intro m
  induction m with
  | zero =>
    intro k n b hk hn
    obtain ⟨n, rfl⟩ : ∃ j, n = j + 1 := ⟨n - 1, by omega⟩
    have : k = N := by omega
    subst this
    exact he n b
  | succ m ih =>
    intro k n b hk hn
    obtain ⟨n, rfl⟩ : ∃ j, n = j + 1 := ⟨n - 1, by omega⟩
    rw [hs n b k (by omega)]
    by_cases hp : p k = true
    · rw [if_pos hp, dNth, if_pos hp]
      by_cases c : b = 0
      · rw [if_pos c, if_pos c]
      · rw [if_neg c, if_neg c]
        exact ih (k + 1) n _ (by omega) (by omega)
    · rw [if_neg hp, dNth, if_neg hp]
      exact ih (k + 1) n _ (by omega) (by omega)
theorem q_openLesson (hW : dW N Q P) (a : Int32) : dQc N Q P (f_X11_openLesson a) (f_X12_openLesson a) (dK 4 4) := by
  have hN := hW.1
  have hB := dWN_b hN
  have hc : ∀ s, dC N Q P s → f_X11_openLesson a s = some (if dNth (fun k => decide (P 1 k = -1)) (N 6) 0 a = -1 then .inr 4 else .inl (dNth (fun k => decide (P 1 k = -1)) (N 6) 0 a)) := fun s h => by
    rw [fe_X11_openLesson]; unfold fb_X11_openLesson
    have e := d_nthC (F := fun n b k => f_X11_openLesson_h4 n a b (nI k) s) (p := (fun k => decide (P 1 k = -1))) (N := N 6) (e := 4) (a := a) (by omega) (fun n b k hk => ?_) (fun n b => ?_) (N 6) 0 ga_fuel 0 (by omega) (d_fuel (by omega))
    · rw [show a - 0 = a from by simp] at e
      exact e
    · simp (disch := omega) only [f_X11_openLesson_h4, dcN h, dc3 h, dc5 h, dc7 h, dc9 h, dc11 h, dc13 h, dc15 h, dc17 h, dc19 h, dc22 h, dc24 h, dc26 h, dc28 h, dc30 h, dc_isOpen hN h hk, d_a0, d_a1, d_a7, d_a13, d_a21, d_a29, d_a35, d_a40, d_a75, d_a80, d_a115, d_a120, d_a155, d_a160, d_a195, d_r1, d_nI0, d_ix, d_cl, d_le, d_lt, d_eq, d_at, d_pt, if_false, if_true, Int32.add_zero, Option.bind_some, reduceIte, Nat.zero_add, Bool.and_eq_true, decide_eq_true_eq, decide_true, decide_false, Bool.and_true, Bool.true_and, Bool.false_and, Bool.and_false, Bool.true_eq_false, Bool.false_eq_true, false_and, and_false, true_and, and_true, d_n0, d_lef, false_or, or_false, or_self, false_and, not_true_eq_false, not_false_eq_true, ne_eq, not_true, not_false_iff, aB_0, aB_1]
      by_cases c : P 1 k = -1 <;> simp [c]
    · simp (disch := omega) only [f_X11_openLesson_h4, dcN h, dc3 h, dc5 h, dc7 h, dc9 h, dc11 h, dc13 h, dc15 h, dc17 h, dc19 h, dc22 h, dc24 h, dc26 h, dc28 h, dc30 h]
      rw [if_pos (nI_le (Nat.le_refl _) (by omega))]
  have hm : ∀ s, dM N Q P s → f_X12_lessonAt a 1 s = some (dNth (fun k => decide (P 1 k = -1)) (N 6) 0 a) := fun s h => by
    rw [fe_X12_lessonAt]; unfold fb_X12_lessonAt
    refine d_nthM (F := fun n b k => f_X12_lessonAt_h5 n 1 b (nI k) s) (p := (fun k => decide (P 1 k = -1))) (N := N 6) (fun n b k hk => ?_) (fun n b => ?_) (N 6) 0 ga_fuel a (by omega) (d_fuel (by omega))
    · simp (disch := omega) only [f_X12_lessonAt_h5, dmN h, dm7 h, dm13 h, dm21 h, dm29 h, dm35 h, dm75 h, dm115 h, dm155 h, dm195 h, dm0 h, dm40 h, dm80 h, dm120 h, dm160 h, dm_isOpen hN h hk, d_10, d_00, d_a0, d_a1, d_a7, d_a13, d_a21, d_a29, d_a35, d_a40, d_a75, d_a80, d_a115, d_a120, d_a155, d_a160, d_a195, d_r1, d_nI0, d_ix, d_cl, d_le, d_lt, d_eq, d_at, d_pt, if_false, if_true, Int32.add_zero, Option.bind_some, reduceIte, Nat.zero_add, Bool.and_eq_true, decide_eq_true_eq, decide_true, decide_false, Bool.and_true, Bool.true_and, Bool.false_and, Bool.and_false, Bool.true_eq_false, Bool.false_eq_true, false_and, and_false, true_and, and_true, d_n0, d_lef, false_or, or_false, or_self, false_and, not_true_eq_false, not_false_eq_true, ne_eq, not_true, not_false_iff, aB_0, aB_1]
      by_cases c : P 1 k = -1 <;> simp [c]
    · simp (disch := omega) only [f_X12_lessonAt_h5, dmN h, dm7 h, dm13 h, dm21 h, dm29 h, dm35 h, dm75 h, dm115 h, dm155 h, dm195 h, dm0 h, dm40 h, dm80 h, dm120 h, dm160 h]
      rw [if_pos (nI_le (Nat.le_refl _) (by omega))]
  by_cases c : dNth (fun k => decide (P 1 k = -1)) (N 6) 0 a = -1
  · refine Or.inr ⟨4, by decide, fun s h => by rw [hc s h, if_pos c], fun s h => ⟨0, ?_⟩⟩
    rw [fe_X12_openLesson]; unfold fb_X12_openLesson
    simp only [hm s h, c, dK_a, dK_31, dK_32, dK_34, d_fails1, d_fails0, d_10, d_01, d_00, d_11, true_or, or_true, or_self, if_true, if_false, reduceIte, Option.elim_none, Option.elim_some, Option.bind_some, d_up_up]
  · refine Or.inl ⟨dNth (fun k => decide (P 1 k = -1)) (N 6) 0 a, fun s h => by rw [hc s h, if_neg c], fun s h => ?_⟩
    rw [fe_X12_openLesson]; unfold fb_X12_openLesson
    simp only [hm s h, c, dK_a, dK_31, dK_32, dK_34, d_fails1, d_fails0, d_10, d_01, d_00, d_11, true_or, or_true, or_self, if_true, if_false, reduceIte, Option.elim_none, Option.elim_some, Option.bind_some, d_up_up]
theorem q_difference (hW : dW N Q P) (a : Int32) : dQc N Q P (f_X11_difference a) (f_X12_difference a) (dK 4 4) := by
  have hN := hW.1
  have hB := dWN_b hN
  have hc : ∀ s, dC N Q P s → f_X11_difference a s = some (if dNth (aDiff Q P) (N 6) 0 a = -1 then .inr 4 else .inl (dNth (aDiff Q P) (N 6) 0 a)) := fun s h => by
    rw [fe_X11_difference]; unfold fb_X11_difference
    have e := d_nthC (F := fun n b k => f_X11_difference_h4 n a b (nI k) s) (p := (aDiff Q P)) (N := N 6) (e := 4) (a := a) (by omega) (fun n b k hk => ?_) (fun n b => ?_) (N 6) 0 ga_fuel 0 (by omega) (d_fuel (by omega))
    · rw [show a - 0 = a from by simp] at e
      exact e
    · simp (disch := omega) only [f_X11_difference_h4, dcN h, dc3 h, dc5 h, dc7 h, dc9 h, dc11 h, dc13 h, dc15 h, dc17 h, dc19 h, dc22 h, dc24 h, dc26 h, dc28 h, dc30 h, dc_differs hN h hk, d_a0, d_a1, d_a7, d_a13, d_a21, d_a29, d_a35, d_a40, d_a75, d_a80, d_a115, d_a120, d_a155, d_a160, d_a195, d_r1, d_nI0, d_ix, d_cl, d_le, d_lt, d_eq, d_at, d_pt, if_false, if_true, Int32.add_zero, Option.bind_some, reduceIte, Nat.zero_add, Bool.and_eq_true, decide_eq_true_eq, decide_true, decide_false, Bool.and_true, Bool.true_and, Bool.false_and, Bool.and_false, Bool.true_eq_false, Bool.false_eq_true, false_and, and_false, true_and, and_true, d_n0, d_lef, false_or, or_false, or_self, false_and, not_true_eq_false, not_false_eq_true, ne_eq, not_true, not_false_iff, aB_0, aB_1]
      cases c : aDiff Q P k <;> simp [c]
    · simp (disch := omega) only [f_X11_difference_h4, dcN h, dc3 h, dc5 h, dc7 h, dc9 h, dc11 h, dc13 h, dc15 h, dc17 h, dc19 h, dc22 h, dc24 h, dc26 h, dc28 h, dc30 h]
      rw [if_pos (nI_le (Nat.le_refl _) (by omega))]
  have hm : ∀ s, dM N Q P s → f_X12_lessonAt a 0 s = some (dNth (aDiff Q P) (N 6) 0 a) := fun s h => by
    rw [fe_X12_lessonAt]; unfold fb_X12_lessonAt
    refine d_nthM (F := fun n b k => f_X12_lessonAt_h5 n 0 b (nI k) s) (p := (aDiff Q P)) (N := N 6) (fun n b k hk => ?_) (fun n b => ?_) (N 6) 0 ga_fuel a (by omega) (d_fuel (by omega))
    · simp (disch := omega) only [f_X12_lessonAt_h5, dmN h, dm7 h, dm13 h, dm21 h, dm29 h, dm35 h, dm75 h, dm115 h, dm155 h, dm195 h, dm0 h, dm40 h, dm80 h, dm120 h, dm160 h, dm_differs hN h hk, d_10, d_00, d_a0, d_a1, d_a7, d_a13, d_a21, d_a29, d_a35, d_a40, d_a75, d_a80, d_a115, d_a120, d_a155, d_a160, d_a195, d_r1, d_nI0, d_ix, d_cl, d_le, d_lt, d_eq, d_at, d_pt, if_false, if_true, Int32.add_zero, Option.bind_some, reduceIte, Nat.zero_add, Bool.and_eq_true, decide_eq_true_eq, decide_true, decide_false, Bool.and_true, Bool.true_and, Bool.false_and, Bool.and_false, Bool.true_eq_false, Bool.false_eq_true, false_and, and_false, true_and, and_true, d_n0, d_lef, false_or, or_false, or_self, false_and, not_true_eq_false, not_false_eq_true, ne_eq, not_true, not_false_iff, aB_0, aB_1]
      cases c : aDiff Q P k <;> simp [c]
    · simp (disch := omega) only [f_X12_lessonAt_h5, dmN h, dm7 h, dm13 h, dm21 h, dm29 h, dm35 h, dm75 h, dm115 h, dm155 h, dm195 h, dm0 h, dm40 h, dm80 h, dm120 h, dm160 h]
      rw [if_pos (nI_le (Nat.le_refl _) (by omega))]
  by_cases c : dNth (aDiff Q P) (N 6) 0 a = -1
  · refine Or.inr ⟨4, by decide, fun s h => by rw [hc s h, if_pos c], fun s h => ⟨0, ?_⟩⟩
    rw [fe_X12_difference]; unfold fb_X12_difference
    simp only [hm s h, c, dK_a, dK_31, dK_32, dK_34, d_fails1, d_fails0, d_10, d_01, d_00, d_11, true_or, or_true, or_self, if_true, if_false, reduceIte, Option.elim_none, Option.elim_some, Option.bind_some, d_up_up]
  · refine Or.inl ⟨dNth (aDiff Q P) (N 6) 0 a, fun s h => by rw [hc s h, if_neg c], fun s h => ?_⟩
    rw [fe_X12_difference]; unfold fb_X12_difference
    simp only [hm s h, c, dK_a, dK_31, dK_32, dK_34, d_fails1, d_fails0, d_10, d_01, d_00, d_11, true_or, or_true, or_self, if_true, if_false, reduceIte, Option.elim_none, Option.elim_some, Option.bind_some, d_up_up]
end D19
