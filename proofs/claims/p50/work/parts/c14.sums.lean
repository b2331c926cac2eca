section E4
/-! ===== the school of the law; its sums ===== -/
def kN : Nat → Nat := fun k => ([2, 3, 2, 4, 3, 2, 7] : List Nat).getD k 0
def kT : List (List Nat) := [[], [0, 1], [1, 2, 1, 9], [1, 3, 2, 3], [0, 1, 0], [0, 1, 0, 1, 0, 1, 1], [0, 1, 1, 0, 0, 1, 0], [0, 0, 1, 1, 3, 3, 4], [0, 2, 1, 0, 1, 2, 3], [0, 1, 1, 0, 2, 1, 0]]
def kQ : Nat → Nat → Int32 := fun a k => nI ((kT.getD a []).getD k 0)
theorem kN_ok : dWN kN := by unfold dWN; decide
theorem kb7 (p : Nat → Prop) (h : p 0 ∧ p 1 ∧ p 2 ∧ p 3 ∧ p 4 ∧ p 5 ∧ p 6) : ∀ k, k < 7 → p k := by
  intro k hk
  obtain ⟨h0, h1, h2, h3, h4, h5, h6⟩ := h
  match k, hk with
  | 0, _ => exact h0
  | 1, _ => exact h1
  | 2, _ => exact h2
  | 3, _ => exact h3
  | 4, _ => exact h4
  | 5, _ => exact h5
  | 6, _ => exact h6
theorem kQ_ok : dWQ kN kQ := by
  refine ⟨fun k hk => ?_, fun k hk => ?_, fun k hk => ?_, fun k hk => ?_, ?_, ?_⟩
  · exact ⟨(kT.getD 6 []).getD k 0, kb7 (fun k => (kT.getD 6 []).getD k 0 < kN 2) (by decide) k hk, rfl⟩
  · exact ⟨(kT.getD 7 []).getD k 0, kb7 (fun k => (kT.getD 7 []).getD k 0 < dSl kN) (by decide) k hk, rfl⟩
  · exact ⟨(kT.getD 8 []).getD k 0, kb7 (fun k => (kT.getD 8 []).getD k 0 < kN 3) (by decide) k hk, rfl⟩
  · exact ⟨(kT.getD 9 []).getD k 0, kb7 (fun k => (kT.getD 9 []).getD k 0 < kN 4) (by decide) k hk, rfl⟩
  · show ∀ i k, i < 7 → k < 7 → i ≠ k → kQ 7 i = kQ 7 k → kQ 8 i ≠ kQ 8 k
    have h : ∀ i, i < 7 → ∀ k, k < 7 → i ≠ k → kQ 7 i = kQ 7 k → kQ 8 i ≠ kQ 8 k := by decide +kernel
    exact fun i k hi hk => h i hi k hk
  · show ∀ i k, i < 7 → k < 7 → i ≠ k → kQ 7 i = kQ 7 k → kQ 9 i ≠ kQ 9 k
    have h : ∀ i, i < 7 → ∀ k, k < 7 → i ≠ k → kQ 7 i = kQ 7 k → kQ 9 i ≠ kQ 9 k := by decide +kernel
    exact fun i k hi hk => h i hi k hk
theorem kV_0 : kV0 kN kQ := by
  refine ⟨?_, ?_, ?_⟩
  · show ∀ i k, i < 7 → k < 7 → i ≠ k → kQ 7 i = kQ 7 k → kQ 5 i ≠ kQ 5 k
    have h : ∀ i, i < 7 → ∀ k, k < 7 → i ≠ k → kQ 7 i = kQ 7 k → kQ 5 i ≠ kQ 5 k := by decide +kernel
    exact fun i k hi hk => h i hi k hk
  · show ∀ k, k < 7 → kQ 4 (kQ 9 k).toNatClampNeg = kQ 1 (kQ 6 k).toNatClampNeg
    decide +kernel
  · show ∀ k t, k < 7 → t < 4 → kQ 8 k = nI t → aQual kQ t k = true
    have h : ∀ k, k < 7 → ∀ t, t < 4 → kQ 8 k = nI t → aQual kQ t k = true := by decide +kernel
    exact fun k t hk ht => h k hk t ht
variable {P : Nat → Nat → Int32}
/-! sums over the teachers -/
theorem nCt_snoc (p : Nat → Bool) : ∀ m k, nCt p (m + 1) k = nCt p m k + (if p (k + m) = true then 1 else 0) := by
  intro m
  induction m with
  | zero => intro k; unfold nCt; simp [nCt]
  | succ m ih =>
    intro k
    have e : nCt p (m + 1 + 1) k = (if p k = true then 1 else 0) + nCt p (m + 1) (k + 1) := by
      rw [nCt]
    have e2 : nCt p (m + 1) k = (if p k = true then 1 else 0) + nCt p m (k + 1) := by
      rw [nCt]
    rw [e, ih (k + 1), e2, show k + 1 + m = k + (m + 1) by omega]
    omega
theorem cN_succ (p : Nat → Bool) (n : Nat) : cN p (n + 1) = cN p n + (if p n = true then 1 else 0) := by
  unfold cN; rw [nCt_snoc, Nat.zero_add]
theorem cN_0 (p : Nat → Bool) : cN p 0 = 0 := rfl
theorem cN_le (p : Nat → Bool) (n : Nat) : cN p n ≤ n := nCt_le n 0
/-- taught, supervised, open: every lesson once -/
theorem k_all (hW : dW kN kQ P) : ∀ n, n ≤ 7 → cN (fun k => decide (P 1 k = nI 0) && decide (P 3 k = 0)) n + cN (fun k => decide (P 1 k = nI 1) && decide (P 3 k = 0)) n + cN (fun k => decide (P 1 k = nI 2) && decide (P 3 k = 0)) n + cN (fun k => decide (P 1 k = nI 3) && decide (P 3 k = 0)) n +
    cN (fun k => decide (P 3 k = 1)) n + cN (fun k => decide (P 1 k = -1)) n = n := by
  intro n
  induction n with
  | zero => intro _; rfl
  | succ n ih =>
    intro hn
    have h := ih (by omega)
    simp only [cN_succ]
    rcases hW.2.2.2.1 n (show n < 7 by omega) with e1 | ⟨t, ht, e1⟩
    · have e3 : P 3 n = 0 := by
        rcases hW.2.2.2.2.2.1 n (show n < 7 by omega) with c | ⟨_, c⟩
        · exact c
        · exact absurd e1 c
      rw [e1, e3]
      simp +decide
      omega
    · rcases hW.2.2.2.2.2.1 n (show n < 7 by omega) with e3 | ⟨e3, _⟩
      · rw [e1, e3]
        have ht : t < 4 := ht
        match t, ht with
        | 0, _ => simp +decide; omega
        | 1, _ => simp +decide; omega
        | 2, _ => simp +decide; omega
        | 3, _ => simp +decide; omega
      · rw [e1, e3]
        have ht : t < 4 := ht
        match t, ht with
        | 0, _ => simp +decide; omega
        | 1, _ => simp +decide; omega
        | 2, _ => simp +decide; omega
        | 3, _ => simp +decide; omega
/-- every duty is somebody's -/
theorem k_duties (hW : dW kN kQ P) : ∀ n, n ≤ 7 → cN (fun k => decide (P 1 k = nI 0) && decide (P 3 k = 1)) n + cN (fun k => decide (P 1 k = nI 1) && decide (P 3 k = 1)) n + cN (fun k => decide (P 1 k = nI 2) && decide (P 3 k = 1)) n + cN (fun k => decide (P 1 k = nI 3) && decide (P 3 k = 1)) n = cN (fun k => decide (P 3 k = 1)) n := by
  intro n
  induction n with
  | zero => intro _; rfl
  | succ n ih =>
    intro hn
    have h := ih (by omega)
    simp only [cN_succ]
    rcases hW.2.2.2.2.2.1 n (show n < 7 by omega) with e3 | ⟨e3, c1⟩
    · rw [e3]
      simp +decide
      omega
    · rcases hW.2.2.2.1 n (show n < 7 by omega) with e1 | ⟨t, ht, e1⟩
      · exact absurd e1 c1
      · rw [e1, e3]
        have ht : t < 4 := ht
        match t, ht with
        | 0, _ => simp +decide; omega
        | 1, _ => simp +decide; omega
        | 2, _ => simp +decide; omega
        | 3, _ => simp +decide; omega
theorem d_q2 (x y u v : Int32) : (x - y) + (u - v) = (x + u) - (y + v) := by
  rw [Int32.sub_eq_add_neg, Int32.sub_eq_add_neg, Int32.sub_eq_add_neg, Int32.neg_add, Int32.sub_eq_add_neg]
  ac_rfl
theorem d_q1 (a b c d e f g h : Int32) : (((0 + (a - e)) + (b - f)) + (c - g)) + (d - h) = ((((0 + a) + b) + c) + d) - (((e + f) + g) + h) := by
  rw [Int32.zero_add, Int32.zero_add, d_q2, d_q2, d_q2]
theorem k_first : aFirst kN kQ (nI 0) = 2 ∧ aFirst kN kQ (nI 1) = 2 ∧ aFirst kN kQ (nI 2) = 2 ∧ aFirst kN kQ (nI 3) = 1 := by decide +kernel
theorem k_dbl : ∀ x, x < 8 → (FP.ddiv (FP.i2d (nI x)) (FP.i2d (nI 7)) &&& 0x7fffffffffffffff ≤ 0x7ff0000000000000) ∧ Op.cmpValue (FP.dcmp (FP.ddiv (FP.i2d (nI x)) (FP.i2d (nI 7))) (FP.ddiv (FP.i2d (nI x)) (FP.i2d (nI 7)))) .l = 0 := by decide +kernel
theorem k_spr (p : Nat → Bool) (L : Nat → Int32) (hL : ∀ t, t < 4 → (-7 : Int) ≤ (L t).toInt ∧ (L t).toInt ≤ 7) (f : Nat → Int32 × Int32 × Int32 → Int32 × Int32 × Int32)
    (hf : ∀ k a, f k a = if p k = true then (if a.1 = 0 then (1, L k, L k) else (1, if L k < a.2.1 then L k else a.2.1, if a.2.2 < L k then L k else a.2.2)) else a) :
    ∀ m k a, k + m ≤ 4 → (-7 : Int) ≤ a.2.1.toInt → a.2.1.toInt ≤ a.2.2.toInt → a.2.2.toInt ≤ 7 → (-7 : Int) ≤ (gFo f m k a).2.1.toInt ∧ (gFo f m k a).2.1.toInt ≤ (gFo f m k a).2.2.toInt ∧ (gFo f m k a).2.2.toInt ≤ 7 := by
  intro m
  induction m with
  | zero => intro k a _ h1 h2 h3; exact ⟨h1, h2, h3⟩
  | succ m ih =>
    intro k a hk h1 h2 h3
    rw [gFo]
    have hl := hL k (by omega)
    rw [hf]
    by_cases c : p k = true
    · rw [if_pos c]
      by_cases c0 : a.1 = 0
      · rw [if_pos c0]; exact ih (k + 1) _ (by omega) hl.1 (Int.le_refl _) hl.2
      · rw [if_neg c0]
        refine ih (k + 1) _ (by omega) ?_ ?_ ?_
        · show (-7 : Int) ≤ (if L k < a.2.1 then L k else a.2.1).toInt
          split <;> omega
        · show (if L k < a.2.1 then L k else a.2.1).toInt ≤ (if a.2.2 < L k then L k else a.2.2).toInt
          split <;> split <;> rename_i q1 q2 <;> simp only [Int32.lt_iff_toInt_lt] at q1 q2 <;> omega
        · show (if a.2.2 < L k then L k else a.2.2).toInt ≤ 7
          split <;> omega
    · rw [if_neg c]; exact ih (k + 1) a (by omega) h1 h2 h3
theorem k_toInt {a b : Nat} (ha : a ≤ 7) (hb : b ≤ 7) : (nI a - nI b).toInt = (a : Int) - b := by
  have h : ∀ a, a < 8 → ∀ b, b < 8 → (nI a - nI b).toInt = (a : Int) - b := by decide +kernel
  exact h a (by omega) b (by omega)
theorem k_sub : ∀ x, x < 15 → ∀ y, y < 15 → y ≤ x → ¬ ((nI x - nI 7) - (nI y - nI 7) < 0) := by decide +kernel
theorem k_nonneg (x y : Int32) (h1 : (-7 : Int) ≤ y.toInt) (h2 : y.toInt ≤ x.toInt) (h3 : x.toInt ≤ 7) : ¬ (x - y < 0) := by
  have hx : x = nI (x.toInt + 7).toNat - nI 7 := by
    apply Int32.toInt_inj.mp
    have h : ∀ a, a < 15 → (nI a - nI 7).toInt = (a : Int) - 7 := by decide +kernel
    rw [h _ (by omega)]; omega
  have hy : y = nI (y.toInt + 7).toNat - nI 7 := by
    apply Int32.toInt_inj.mp
    have h : ∀ a, a < 15 → (nI a - nI 7).toInt = (a : Int) - 7 := by decide +kernel
    rw [h _ (by omega)]; omega
  rw [hx, hy]
  exact k_sub _ (by omega) _ (by omega) (by omega)
theorem k_spread : ¬ (aSpread kN kQ P < 0) := by
  have hl : ∀ t, t < 4 → (-7 : Int) ≤ (aLoad kN kQ P (nI t)).toInt ∧ (aLoad kN kQ P (nI t)).toInt ≤ 7 := by
    intro t ht
    have h1 : jTn kN P t ≤ 7 := cN_le _ 7
    have h2 : cN (fun k => decide (kQ 8 k = nI t)) 7 ≤ 7 := cN_le _ 7
    have e : aLoad kN kQ P (nI t) = nI (jTn kN P t) - nI (cN (fun k => decide (kQ 8 k = nI t)) 7) := by
      unfold aLoad
      rw [aBy_t]
      show _ - dCt (fun k => decide (kQ 8 k = nI t)) 7 = _
      rw [cN_t]
    rw [e, k_toInt h1 h2]
    omega
  obtain ⟨r1, r2, r3⟩ := k_spr (fun k => decide (P 4 k = 0)) (fun t => aLoad kN kQ P (nI t)) hl (dSf kN kQ P) (fun k a => by unfold dSf; simp only [decide_eq_true_eq]) 4 0 (0, 0, 0) (by omega) (by decide) (by decide) (by decide)
  exact k_nonneg _ _ r1 r2 r3
end E4
