section D50
/-! ===== lessons ===== -/
variable {T : Nat → Nat} {L : Nat} {N : Nat → Nat} {Q : Nat → Nat → Int32} {s t : ga_M}
def tkn (N : Nat → Nat) (Q : Nat → Nat → Int32) (a : Nat) (x v : Int32) : Bool := decide (∃ k, k < N 6 ∧ (Q 7 k = x ∧ Q a k = v))
def dWN6 (N : Nat → Nat) : Prop := (1 ≤ N 0 ∧ N 0 ≤ 5) ∧ (1 ≤ N 1 ∧ N 1 ≤ 6) ∧ (1 ≤ N 2 ∧ N 2 ≤ 6) ∧ (1 ≤ N 3 ∧ N 3 ≤ 8) ∧ (1 ≤ N 4 ∧ N 4 ≤ 6) ∧ (1 ≤ N 5 ∧ N 5 ≤ 6) ∧ N 6 ≤ 40
theorem ex_step {k : Nat} {p : Nat → Prop} : (∃ j, j < k + 1 ∧ p j) ↔ ((∃ j, j < k ∧ p j) ∨ p k) := by
  constructor
  · rintro ⟨j, hj, hp⟩
    by_cases e : j = k
    · subst e; exact Or.inr hp
    · exact Or.inl ⟨j, by omega, hp⟩
  · rintro (⟨j, hj, hp⟩ | hp)
    · exact ⟨j, by omega, hp⟩
    · exact ⟨k, by omega, hp⟩
theorem m_isThere (h6 : N 6 ≤ 40) (hM : dM2 74 N Q t) {a : Nat} (ha : 5 ≤ a) (ha9 : a ≤ 9) (x v : Int32) : f_X12_isThere (nI (off a)) v x t = some (aB (tkn N Q a x v)) := by
  have ho := off_cap a (by omega) (by omega)
  have hcap : cap a = 40 := by unfold cap; rw [if_neg (by omega), if_neg (by omega), if_neg (by omega)]
  have hgov : gov a = 6 := by unfold gov; rw [if_neg (by omega), if_neg (by omega), if_neg (by omega)]
  rw [fe_X12_isThere]; unfold fb_X12_isThere
  have key : ∀ r k n (b : Int32), k + r = N 6 → r < n → b = aB (decide (∃ j, j < k ∧ (Q 7 j = x ∧ Q a j = v))) → f_X12_isThere_h6 n (nI (off a)) v x b (nI k) t = some (aB (tkn N Q a x v)) := by
    intro r
    induction r with
    | zero =>
      intro k n b hk hn hb
      obtain ⟨n, rfl⟩ : ∃ j, n = j + 1 := ⟨n - 1, by omega⟩
      have : k = N 6 := by omega
      subst this
      rw [f_X12_isThere_h6, hM.1 6 (by omega), if_pos (nI_le (Nat.le_refl _) (by omega)), hb]
      rfl
    | succ r ih =>
      intro k n b hk hn hb
      obtain ⟨n, rfl⟩ : ∃ j, n = j + 1 := ⟨n - 1, by omega⟩
      have hk6 : k < N 6 := by omega
      rw [f_X12_isThere_h6]
      dsimp only
      rw [hM.1 6 (by omega), if_neg (nI_ge hk6 (by omega)), d_p1]
      by_cases c : ∃ j, j < k ∧ (Q 7 j = x ∧ Q a j = v)
      · rw [hb, decide_eq_true c, if_neg (show ¬ aB true = 0 by decide)]
        exact ih (k + 1) n 1 (by omega) (by omega) (by rw [decide_eq_true (ex_step.mpr (Or.inl c))]; rfl)
      · have h7 : t 74 (115 + k) = Q 7 k := hM.2 7 (by omega) (by omega) k (by unfold gov; simp; omega)
        have hA : t 74 (off a + k) = Q a k := hM.2 a (by omega) ha9 k (by rw [hgov]; exact hk6)
        rw [hb, decide_eq_false c, if_pos (show aB false = 0 from rfl), d_a115, if_neg (nI_in (c := 115 + k) (N := 235) (by omega) (by omega)), d_cl (show 115 + k < 2147483648 by omega), h7]
        by_cases c1 : Q 7 k = x
        · rw [if_pos c1, nI_add, if_neg (nI_in (c := off a + k) (N := 235) (by omega) (by omega)), d_cl (show off a + k < 2147483648 by omega), hA]
          by_cases c2 : Q a k = v
          · rw [if_pos c2]
            exact ih (k + 1) n 1 (by omega) (by omega) (by rw [decide_eq_true (ex_step.mpr (Or.inr ⟨c1, c2⟩))]; rfl)
          · rw [if_neg c2]
            exact ih (k + 1) n 0 (by omega) (by omega) (by rw [decide_eq_false (fun q => (ex_step.mp q).elim c (fun q => c2 q.2))]; rfl)
        · rw [if_neg c1]
          exact ih (k + 1) n 0 (by omega) (by omega) (by rw [decide_eq_false (fun q => (ex_step.mp q).elim c (fun q => c1 q.1))]; rfl)
  exact key (N 6) 0 ga_fuel 0 (by omega) (d_fuel (by omega)) (by rw [decide_eq_false (fun ⟨j, hj, _⟩ => by omega)]; rfl)
theorem c_taken_58 (h6 : N 6 ≤ 40) (hC : dC2 49 N Q s) (x v : Int32) : f_X7_isTakenAtFirst_49_58 x v s = some (aB (tkn N Q 5 x v)) := by
  rw [fe_X7_isTakenAtFirst_49_58]; unfold fb_X7_isTakenAtFirst_49_58
  have key : ∀ r k n, k + r = N 6 → r < n → (¬ ∃ j, j < k ∧ (Q 7 j = x ∧ Q 5 j = v)) → f_X7_isTakenAtFirst_49_58_h3 n x v (nI k) s = some (aB (tkn N Q 5 x v)) := by
    intro r
    induction r with
    | zero =>
      intro k n hk hn hb
      obtain ⟨n, rfl⟩ : ∃ j, n = j + 1 := ⟨n - 1, by omega⟩
      have : k = N 6 := by omega
      subst this
      rw [f_X7_isTakenAtFirst_49_58_h3, hC.1 6 (by omega), if_pos (nI_le (Nat.le_refl _) (by omega))]
      unfold tkn
      rw [decide_eq_false hb]; rfl
    | succ r ih =>
      intro k n hk hn hb
      obtain ⟨n, rfl⟩ : ∃ j, n = j + 1 := ⟨n - 1, by omega⟩
      have hk6 : k < N 6 := by omega
      have h7 : s 63 k = Q 7 k := hC.2 7 (by omega) (by omega) k (by unfold gov; simp; omega)
      have hA : s 59 k = Q 5 k := hC.2 5 (by omega) (by omega) k (by unfold gov; simp; omega)
      rw [f_X7_isTakenAtFirst_49_58_h3]
      dsimp only
      rw [hC.1 6 (by omega), if_neg (nI_ge hk6 (by omega)), d_p1, d_at (show k < 40 by omega) (by omega), d_at (show k < 40 by omega) (by omega), h7, hA]
      by_cases c1 : Q 7 k = x
      · rw [if_pos c1]
        by_cases c2 : Q 5 k = v
        · rw [if_pos c2]
          unfold tkn
          rw [decide_eq_true ⟨k, hk6, c1, c2⟩]; rfl
        · rw [if_neg c2]
          exact ih (k + 1) n (by omega) (by omega) (fun q => (ex_step.mp q).elim hb (fun q => c2 q.2))
      · rw [if_neg c1]
        exact ih (k + 1) n (by omega) (by omega) (fun q => (ex_step.mp q).elim hb (fun q => c1 q.1))
  exact key (N 6) 0 ga_fuel (by omega) (d_fuel (by omega)) (fun ⟨j, hj, _⟩ => by omega)
theorem l_untaken_58 (hT : tOk T L) (h6 : N 6 ≤ 40) {st M : Nat} (hM1 : 1 ≤ M) (hM : M ≤ 40) (h : pOk T L st N Q s t) (x : Int32) :
    (∃ v, v < M ∧ tkn N Q 5 x (nI v) = false ∧ f_X8_checkUntaken_58 x (nI M) s = some (1, s) ∧ s 45 5 = nI v ∧ f_X12_see 0 (nI M - 1) t = some (nI v, t) ∧ f_X12_isThere 35 (nI v) x t = some 0) ∨
    ∃ s2 v t1 b, v < M ∧ f_X8_checkUntaken_58 x (nI M) s = some (0, s2) ∧ f_X12_see 0 (nI M - 1) t = some (nI v, t1) ∧ f_X12_isThere 35 (nI v) x t1 = some b ∧ tBad s2 (if b = 0 then t1 else v_X12_wrong 3 t1) ∧ pFc s s2 ∧ pFm t (if b = 0 then t1 else v_X12_wrong 3 t1) ∧ dM2 74 N Q (if b = 0 then t1 else v_X12_wrong 3 t1) := by
  rw [fe_X8_checkUntaken_58]; unfold fb_X8_checkUntaken_58
  rw [show nI M - 1 = nI (M - 1) from pk_sub (a := M) (b := 1) (by omega)]
  have hth : ∀ (v : Int32) (t : ga_M), dM2 74 N Q t → f_X12_isThere 35 v x t = some (aB (tkn N Q 5 x v)) := fun v t ht => m_isThere h6 ht (a := 5) (by omega) (by omega) x v
  rcases p_see hT (lo := 0) (hi := M - 1) (by omega) (by omega) h with ⟨v, _, hv, b1, b2, b3⟩ | ⟨s2, t2, b1, b2, b3, b4, b5⟩
  · rw [show v_X8_checkNumber 0 (nI (M - 1)) s = (1, s) from b1]
    dsimp only
    rw [if_neg (show ¬ (1 : Int32) = 0 by decide), c_taken_58 h6 h.2.1, b2, Option.bind_some]
    cases c : tkn N Q 5 x (nI v)
    · left
      rw [if_pos (show aB false = 0 from rfl)]
      exact ⟨v, by omega, c, rfl, rfl, b3, by rw [hth _ t h.2.2, c]; rfl⟩
    · right
      obtain ⟨s2, t2, g1, g2, g3, g4, g5⟩ := l_fail h.1 (k := 3) (by omega) (by omega)
      rw [if_neg (show ¬ aB true = 0 by decide)]
      rw [show v_X8_fail 3 s = (0, s2) from g1]
      refine ⟨s2, v, t, 1, by omega, rfl, b3, by rw [hth _ t h.2.2, c]; rfl, ?_, pFc_t g4, ?_, ?_⟩
      · rw [if_neg (by decide), show v_X12_wrong 3 t = t2 from g2]; exact g3
      · rw [if_neg (by decide), show v_X12_wrong 3 t = t2 from g2]; exact pFm_m g5
      · rw [if_neg (by decide), show v_X12_wrong 3 t = t2 from g2]; exact dM2_m g5 h.2.2
  · right
    rcases l_see hT (lo := 0) (hi := M - 1) (by omega) (by omega) h.1 with ⟨_, _, _, c3, _, _⟩ | ⟨s3, t3, c1, c2, c3, c4, c5⟩
    · rw [c3] at b1; exact absurd (show (1 : Int32) = 0 from congrArg Prod.fst b1) (by decide)
    · have ht3 := dM2_m c5 h.2.2
      have hif : ∀ b : Int32, (if b = 0 then t3 else v_X12_wrong 3 t3) = t3 := fun b => by rw [z_wrong c3.2.2]; split <;> rfl
      refine ⟨s3, 0, t3, aB (tkn N Q 5 x (nI 0)), by omega, ?_, c2, hth _ t3 ht3, by rw [hif]; exact c3, pFc_t c4, by rw [hif]; exact pFm_m c5, by rw [hif]; exact ht3⟩
      rw [show v_X8_checkNumber 0 (nI (M - 1)) s = (0, s3) from c1]
      dsimp only
      rw [if_pos rfl]
theorem c_taken_64 (h6 : N 6 ≤ 40) (hC : dC2 49 N Q s) (x v : Int32) : f_X7_isTakenAtFirst_49_64 x v s = some (aB (tkn N Q 8 x v)) := by
  rw [fe_X7_isTakenAtFirst_49_64]; unfold fb_X7_isTakenAtFirst_49_64
  have key : ∀ r k n, k + r = N 6 → r < n → (¬ ∃ j, j < k ∧ (Q 7 j = x ∧ Q 8 j = v)) → f_X7_isTakenAtFirst_49_64_h3 n x v (nI k) s = some (aB (tkn N Q 8 x v)) := by
    intro r
    induction r with
    | zero =>
      intro k n hk hn hb
      obtain ⟨n, rfl⟩ : ∃ j, n = j + 1 := ⟨n - 1, by omega⟩
      have : k = N 6 := by omega
      subst this
      rw [f_X7_isTakenAtFirst_49_64_h3, hC.1 6 (by omega), if_pos (nI_le (Nat.le_refl _) (by omega))]
      unfold tkn
      rw [decide_eq_false hb]; rfl
    | succ r ih =>
      intro k n hk hn hb
      obtain ⟨n, rfl⟩ : ∃ j, n = j + 1 := ⟨n - 1, by omega⟩
      have hk6 : k < N 6 := by omega
      have h7 : s 63 k = Q 7 k := hC.2 7 (by omega) (by omega) k (by unfold gov; simp; omega)
      have hA : s 65 k = Q 8 k := hC.2 8 (by omega) (by omega) k (by unfold gov; simp; omega)
      rw [f_X7_isTakenAtFirst_49_64_h3]
      dsimp only
      rw [hC.1 6 (by omega), if_neg (nI_ge hk6 (by omega)), d_p1, d_at (show k < 40 by omega) (by omega), d_at (show k < 40 by omega) (by omega), h7, hA]
      by_cases c1 : Q 7 k = x
      · rw [if_pos c1]
        by_cases c2 : Q 8 k = v
        · rw [if_pos c2]
          unfold tkn
          rw [decide_eq_true ⟨k, hk6, c1, c2⟩]; rfl
        · rw [if_neg c2]
          exact ih (k + 1) n (by omega) (by omega) (fun q => (ex_step.mp q).elim hb (fun q => c2 q.2))
      · rw [if_neg c1]
        exact ih (k + 1) n (by omega) (by omega) (fun q => (ex_step.mp q).elim hb (fun q => c1 q.1))
  exact key (N 6) 0 ga_fuel (by omega) (d_fuel (by omega)) (fun ⟨j, hj, _⟩ => by omega)
theorem l_untaken_64 (hT : tOk T L) (h6 : N 6 ≤ 40) {st M : Nat} (hM1 : 1 ≤ M) (hM : M ≤ 40) (h : pOk T L st N Q s t) (x : Int32) :
    (∃ v, v < M ∧ tkn N Q 8 x (nI v) = false ∧ f_X8_checkUntaken_64 x (nI M) s = some (1, s) ∧ s 45 5 = nI v ∧ f_X12_see 0 (nI M - 1) t = some (nI v, t) ∧ f_X12_isThere 155 (nI v) x t = some 0) ∨
    ∃ s2 v t1 b, v < M ∧ f_X8_checkUntaken_64 x (nI M) s = some (0, s2) ∧ f_X12_see 0 (nI M - 1) t = some (nI v, t1) ∧ f_X12_isThere 155 (nI v) x t1 = some b ∧ tBad s2 (if b = 0 then t1 else v_X12_wrong 3 t1) ∧ pFc s s2 ∧ pFm t (if b = 0 then t1 else v_X12_wrong 3 t1) ∧ dM2 74 N Q (if b = 0 then t1 else v_X12_wrong 3 t1) := by
  rw [fe_X8_checkUntaken_64]; unfold fb_X8_checkUntaken_64
  rw [show nI M - 1 = nI (M - 1) from pk_sub (a := M) (b := 1) (by omega)]
  have hth : ∀ (v : Int32) (t : ga_M), dM2 74 N Q t → f_X12_isThere 155 v x t = some (aB (tkn N Q 8 x v)) := fun v t ht => m_isThere h6 ht (a := 8) (by omega) (by omega) x v
  rcases p_see hT (lo := 0) (hi := M - 1) (by omega) (by omega) h with ⟨v, _, hv, b1, b2, b3⟩ | ⟨s2, t2, b1, b2, b3, b4, b5⟩
  · rw [show v_X8_checkNumber 0 (nI (M - 1)) s = (1, s) from b1]
    dsimp only
    rw [if_neg (show ¬ (1 : Int32) = 0 by decide), c_taken_64 h6 h.2.1, b2, Option.bind_some]
    cases c : tkn N Q 8 x (nI v)
    · left
      rw [if_pos (show aB false = 0 from rfl)]
      exact ⟨v, by omega, c, rfl, rfl, b3, by rw [hth _ t h.2.2, c]; rfl⟩
    · right
      obtain ⟨s2, t2, g1, g2, g3, g4, g5⟩ := l_fail h.1 (k := 3) (by omega) (by omega)
      rw [if_neg (show ¬ aB true = 0 by decide)]
      rw [show v_X8_fail 3 s = (0, s2) from g1]
      refine ⟨s2, v, t, 1, by omega, rfl, b3, by rw [hth _ t h.2.2, c]; rfl, ?_, pFc_t g4, ?_, ?_⟩
      · rw [if_neg (by decide), show v_X12_wrong 3 t = t2 from g2]; exact g3
      · rw [if_neg (by decide), show v_X12_wrong 3 t = t2 from g2]; exact pFm_m g5
      · rw [if_neg (by decide), show v_X12_wrong 3 t = t2 from g2]; exact dM2_m g5 h.2.2
  · right
    rcases l_see hT (lo := 0) (hi := M - 1) (by omega) (by omega) h.1 with ⟨_, _, _, c3, _, _⟩ | ⟨s3, t3, c1, c2, c3, c4, c5⟩
    · rw [c3] at b1; exact absurd (show (1 : Int32) = 0 from congrArg Prod.fst b1) (by decide)
    · have ht3 := dM2_m c5 h.2.2
      have hif : ∀ b : Int32, (if b = 0 then t3 else v_X12_wrong 3 t3) = t3 := fun b => by rw [z_wrong c3.2.2]; split <;> rfl
      refine ⟨s3, 0, t3, aB (tkn N Q 8 x (nI 0)), by omega, ?_, c2, hth _ t3 ht3, by rw [hif]; exact c3, pFc_t c4, by rw [hif]; exact pFm_m c5, by rw [hif]; exact ht3⟩
      rw [show v_X8_checkNumber 0 (nI (M - 1)) s = (0, s3) from c1]
      dsimp only
      rw [if_pos rfl]
theorem c_taken_66 (h6 : N 6 ≤ 40) (hC : dC2 49 N Q s) (x v : Int32) : f_X7_isTakenAtFirst_49_66 x v s = some (aB (tkn N Q 9 x v)) := by
  rw [fe_X7_isTakenAtFirst_49_66]; unfold fb_X7_isTakenAtFirst_49_66
  have key : ∀ r k n, k + r = N 6 → r < n → (¬ ∃ j, j < k ∧ (Q 7 j = x ∧ Q 9 j = v)) → f_X7_isTakenAtFirst_49_66_h3 n x v (nI k) s = some (aB (tkn N Q 9 x v)) := by
    intro r
    induction r with
    | zero =>
      intro k n hk hn hb
      obtain ⟨n, rfl⟩ : ∃ j, n = j + 1 := ⟨n - 1, by omega⟩
      have : k = N 6 := by omega
      subst this
      rw [f_X7_isTakenAtFirst_49_66_h3, hC.1 6 (by omega), if_pos (nI_le (Nat.le_refl _) (by omega))]
      unfold tkn
      rw [decide_eq_false hb]; rfl
    | succ r ih =>
      intro k n hk hn hb
      obtain ⟨n, rfl⟩ : ∃ j, n = j + 1 := ⟨n - 1, by omega⟩
      have hk6 : k < N 6 := by omega
      have h7 : s 63 k = Q 7 k := hC.2 7 (by omega) (by omega) k (by unfold gov; simp; omega)
      have hA : s 67 k = Q 9 k := hC.2 9 (by omega) (by omega) k (by unfold gov; simp; omega)
      rw [f_X7_isTakenAtFirst_49_66_h3]
      dsimp only
      rw [hC.1 6 (by omega), if_neg (nI_ge hk6 (by omega)), d_p1, d_at (show k < 40 by omega) (by omega), d_at (show k < 40 by omega) (by omega), h7, hA]
      by_cases c1 : Q 7 k = x
      · rw [if_pos c1]
        by_cases c2 : Q 9 k = v
        · rw [if_pos c2]
          unfold tkn
          rw [decide_eq_true ⟨k, hk6, c1, c2⟩]; rfl
        · rw [if_neg c2]
          exact ih (k + 1) n (by omega) (by omega) (fun q => (ex_step.mp q).elim hb (fun q => c2 q.2))
      · rw [if_neg c1]
        exact ih (k + 1) n (by omega) (by omega) (fun q => (ex_step.mp q).elim hb (fun q => c1 q.1))
  exact key (N 6) 0 ga_fuel (by omega) (d_fuel (by omega)) (fun ⟨j, hj, _⟩ => by omega)
theorem l_untaken_66 (hT : tOk T L) (h6 : N 6 ≤ 40) {st M : Nat} (hM1 : 1 ≤ M) (hM : M ≤ 40) (h : pOk T L st N Q s t) (x : Int32) :
    (∃ v, v < M ∧ tkn N Q 9 x (nI v) = false ∧ f_X8_checkUntaken_66 x (nI M) s = some (1, s) ∧ s 45 5 = nI v ∧ f_X12_see 0 (nI M - 1) t = some (nI v, t) ∧ f_X12_isThere 195 (nI v) x t = some 0) ∨
    ∃ s2 v t1 b, v < M ∧ f_X8_checkUntaken_66 x (nI M) s = some (0, s2) ∧ f_X12_see 0 (nI M - 1) t = some (nI v, t1) ∧ f_X12_isThere 195 (nI v) x t1 = some b ∧ tBad s2 (if b = 0 then t1 else v_X12_wrong 3 t1) ∧ pFc s s2 ∧ pFm t (if b = 0 then t1 else v_X12_wrong 3 t1) ∧ dM2 74 N Q (if b = 0 then t1 else v_X12_wrong 3 t1) := by
  rw [fe_X8_checkUntaken_66]; unfold fb_X8_checkUntaken_66
  rw [show nI M - 1 = nI (M - 1) from pk_sub (a := M) (b := 1) (by omega)]
  have hth : ∀ (v : Int32) (t : ga_M), dM2 74 N Q t → f_X12_isThere 195 v x t = some (aB (tkn N Q 9 x v)) := fun v t ht => m_isThere h6 ht (a := 9) (by omega) (by omega) x v
  rcases p_see hT (lo := 0) (hi := M - 1) (by omega) (by omega) h with ⟨v, _, hv, b1, b2, b3⟩ | ⟨s2, t2, b1, b2, b3, b4, b5⟩
  · rw [show v_X8_checkNumber 0 (nI (M - 1)) s = (1, s) from b1]
    dsimp only
    rw [if_neg (show ¬ (1 : Int32) = 0 by decide), c_taken_66 h6 h.2.1, b2, Option.bind_some]
    cases c : tkn N Q 9 x (nI v)
    · left
      rw [if_pos (show aB false = 0 from rfl)]
      exact ⟨v, by omega, c, rfl, rfl, b3, by rw [hth _ t h.2.2, c]; rfl⟩
    · right
      obtain ⟨s2, t2, g1, g2, g3, g4, g5⟩ := l_fail h.1 (k := 3) (by omega) (by omega)
      rw [if_neg (show ¬ aB true = 0 by decide)]
      rw [show v_X8_fail 3 s = (0, s2) from g1]
      refine ⟨s2, v, t, 1, by omega, rfl, b3, by rw [hth _ t h.2.2, c]; rfl, ?_, pFc_t g4, ?_, ?_⟩
      · rw [if_neg (by decide), show v_X12_wrong 3 t = t2 from g2]; exact g3
      · rw [if_neg (by decide), show v_X12_wrong 3 t = t2 from g2]; exact pFm_m g5
      · rw [if_neg (by decide), show v_X12_wrong 3 t = t2 from g2]; exact dM2_m g5 h.2.2
  · right
    rcases l_see hT (lo := 0) (hi := M - 1) (by omega) (by omega) h.1 with ⟨_, _, _, c3, _, _⟩ | ⟨s3, t3, c1, c2, c3, c4, c5⟩
    · rw [c3] at b1; exact absurd (show (1 : Int32) = 0 from congrArg Prod.fst b1) (by decide)
    · have ht3 := dM2_m c5 h.2.2
      have hif : ∀ b : Int32, (if b = 0 then t3 else v_X12_wrong 3 t3) = t3 := fun b => by rw [z_wrong c3.2.2]; split <;> rfl
      refine ⟨s3, 0, t3, aB (tkn N Q 9 x (nI 0)), by omega, ?_, c2, hth _ t3 ht3, by rw [hif]; exact c3, pFc_t c4, by rw [hif]; exact pFm_m c5, by rw [hif]; exact ht3⟩
      rw [show v_X8_checkNumber 0 (nI (M - 1)) s = (0, s3) from c1]
      dsimp only
      rw [if_pos rfl]
/-! what the reference does behind an error -/
theorem z_j214 (h : mZ t) (a b c d e f : Int32) : f_X12_readLesson_j214 a b c d e f t = some t := by
  rw [fe_X12_readLesson_j214]; unfold fb_X12_readLesson_j214
  rw [z_goOn h, Option.bind_some, z_must h w_semi, Option.bind_some, if_neg (z_le h)]
theorem z_j186 (h : mZ t) (a b c : Int32) {u r : Nat} (hu : u < 40) (hr : r < 40) (e : Int32) : f_X12_readLesson_j186 a b c (nI u) e (nI r) t = some t := by
  rw [fe_X12_readLesson_j186]; unfold fb_X12_readLesson_j186
  dsimp only
  rw [d_a29, d_a7, if_neg (nI_in (c := 29 + r) (N := 235) (by omega) (by omega)), if_neg (nI_in (c := 7 + u) (N := 235) (by omega) (by omega)), z_wrong h, z_j214 h]
  split <;> rfl
theorem z_j149 (h6 : N 6 ≤ 40) (h : mZ t) (hM : dM2 74 N Q t) (a b c : Int32) {u : Nat} (hu : u < 40) (e : Int32) : f_X12_readLesson_j149 a b c (nI u) e t = some t := by
  rw [fe_X12_readLesson_j149]; unfold fb_X12_readLesson_j149
  have hth : f_X12_isThere 195 0 b t = some (aB (tkn N Q 9 b 0)) := m_isThere h6 hM (a := 9) (by omega) (by omega) b 0
  rw [z_goOn h, Option.bind_some, z_see h, Option.bind_some]
  dsimp only
  rw [hth, Option.bind_some, z_wrong h, show (0 : Int32) = nI 0 from rfl, z_j186 h a b c hu (show 0 < 40 by omega) e]
  split <;> rfl
theorem z_j126 (h6 : N 6 ≤ 40) (h : mZ t) (hM : dM2 74 N Q t) (a b c : Int32) {u v : Nat} (hu : u < 40) (hv : v < 40) : f_X12_readLesson_j126 a b c (nI u) (nI v) t = some t := by
  rw [fe_X12_readLesson_j126]; unfold fb_X12_readLesson_j126
  dsimp only
  rw [d_a21, if_neg (nI_in (c := 21 + v) (N := 235) (by omega) (by omega)), z_wrong h, z_j149 h6 h hM a b c hu]
  split <;> rfl
theorem z_j74 (h6 : N 6 ≤ 40) (h : mZ t) (hM : dM2 74 N Q t) (a b c : Int32) : f_X12_readLesson_j74 a b c t = some t := by
  rw [fe_X12_readLesson_j74]; unfold fb_X12_readLesson_j74
  have hth : f_X12_isThere 155 0 b t = some (aB (tkn N Q 8 b 0)) := m_isThere h6 hM (a := 8) (by omega) (by omega) b 0
  rw [z_goOn h, Option.bind_some, z_number h, Option.bind_some]
  dsimp only
  rw [z_see h, Option.bind_some]
  dsimp only
  rw [hth, Option.bind_some, z_wrong h, show (0 : Int32) = nI 0 from rfl, z_j126 h6 h hM a b c (show 0 < 40 by omega) (show 0 < 40 by omega)]
  split <;> rfl
theorem z_j19 (h6 : N 6 ≤ 40) (h : mZ t) (hM : dM2 74 N Q t) (a : Int32) : f_X12_readLesson_j19 a t = some t := by
  rw [fe_X12_readLesson_j19]; unfold fb_X12_readLesson_j19
  have hth : f_X12_isThere 35 0 0 t = some (aB (tkn N Q 5 0 0)) := m_isThere h6 hM (a := 5) (by omega) (by omega) 0 0
  rw [z_goOn h, Option.bind_some, z_number h, Option.bind_some]
  dsimp only
  rw [z_see h, Option.bind_some]
  dsimp only
  rw [hth, Option.bind_some, z_wrong h, z_j74 h6 h hM]
  split <;> rfl
theorem dBd_6 (h : dWN6 N) : dBd N := ⟨h.2.2.1.2, h.2.2.2.1.2, h.2.2.2.2.1.2, h.2.2.2.2.2.2⟩
theorem dWQ_add (h : dWQ N Q) {x g u v r : Nat} (hx : x < dSl N) (hu : u < N 2) (hv : v < N 3) (hr : r < N 4) (ht : tkn N Q 8 (nI x) (nI v) = false) (hr2 : tkn N Q 9 (nI x) (nI r) = false) : dWQ (nU N 6 (N 6 + 1)) (qL Q (N 6) (nI x) (nI g) (nI u) (nI v) (nI r)) := by
  obtain ⟨h0, h1, h2, h3, h4, h5⟩ := h
  unfold tkn at ht hr2
  rw [decide_eq_false_iff_not] at ht hr2
  have e6 : ∀ k, qL Q (N 6) (nI x) (nI g) (nI u) (nI v) (nI r) 6 k = if k = N 6 then nI u else Q 6 k := fun k => by unfold qL pS; simp
  have e7 : ∀ k, qL Q (N 6) (nI x) (nI g) (nI u) (nI v) (nI r) 7 k = if k = N 6 then nI x else Q 7 k := fun k => by unfold qL pS; simp
  have e8 : ∀ k, qL Q (N 6) (nI x) (nI g) (nI u) (nI v) (nI r) 8 k = if k = N 6 then nI v else Q 8 k := fun k => by unfold qL pS; simp
  have e9 : ∀ k, qL Q (N 6) (nI x) (nI g) (nI u) (nI v) (nI r) 9 k = if k = N 6 then nI r else Q 9 k := fun k => by unfold qL pS; simp
  have n6 : nU N 6 (N 6 + 1) 6 = N 6 + 1 := nU_eq _ _ _
  have nS : dSl (nU N 6 (N 6 + 1)) = dSl N := by unfold dSl; rw [nU_ne (by omega), nU_ne (by omega)]
  unfold dWQ
  rw [n6, nS, nU_ne (show 2 ≠ 6 by omega), nU_ne (show 3 ≠ 6 by omega), nU_ne (show 4 ≠ 6 by omega)]
  refine ⟨fun k hk => ?_, fun k hk => ?_, fun k hk => ?_, fun k hk => ?_, fun i k hi hk hik e => ?_, fun i k hi hk hik e => ?_⟩
  · rw [e6]; by_cases c : k = N 6
    · rw [if_pos c]; exact ⟨u, hu, rfl⟩
    · rw [if_neg c]; exact h0 k (by omega)
  · rw [e7]; by_cases c : k = N 6
    · rw [if_pos c]; exact ⟨x, hx, rfl⟩
    · rw [if_neg c]; exact h1 k (by omega)
  · rw [e8]; by_cases c : k = N 6
    · rw [if_pos c]; exact ⟨v, hv, rfl⟩
    · rw [if_neg c]; exact h2 k (by omega)
  · rw [e9]; by_cases c : k = N 6
    · rw [if_pos c]; exact ⟨r, hr, rfl⟩
    · rw [if_neg c]; exact h3 k (by omega)
  · rw [e7, e7] at e
    rw [e8, e8]
    by_cases c1 : i = N 6
    · rw [if_pos c1] at e ⊢
      rw [if_neg (show ¬ k = N 6 by omega)] at e ⊢
      exact fun q => ht ⟨k, by omega, e.symm, q.symm⟩
    · rw [if_neg c1] at e ⊢
      by_cases c2 : k = N 6
      · rw [if_pos c2] at e ⊢; exact fun q => ht ⟨i, by omega, e, q⟩
      · rw [if_neg c2] at e ⊢; exact h4 i k (by omega) (by omega) hik e
  · rw [e7, e7] at e
    rw [e9, e9]
    by_cases c1 : i = N 6
    · rw [if_pos c1] at e ⊢
      rw [if_neg (show ¬ k = N 6 by omega)] at e ⊢
      exact fun q => hr2 ⟨k, by omega, e.symm, q.symm⟩
    · rw [if_neg c1] at e ⊢
      by_cases c2 : k = N 6
      · rw [if_pos c2] at e ⊢; exact fun q => hr2 ⟨i, by omega, e, q⟩
      · rw [if_neg c2] at e ⊢; exact h5 i k (by omega) (by omega) hik e
theorem if_c {α : Type} {b : Int32} {f : ga_M → α} {t1 t2 : ga_M} : (if b = 0 then f t1 else f t2) = f (if b = 0 then t1 else t2) := by split <;> rfl
/-- one lesson, behind its word -/
theorem l_lesson (hT : tOk T L) (hN : dWN6 N) (hQ : dWQ N Q) (h40 : N 6 < 40) {st : Nat} (h : pOk T L st N Q s t) :
    ∃ s1, f_X10_next s = some s1 ∧ ((∃ st2 s2 t2 N2 Q2, f_X8_readLesson s1 = some (1, s2) ∧ f_X12_readLesson_j19 (nI (N 6)) t = some t2 ∧ pOk T L st2 N2 Q2 s2 t2 ∧ pFc s s2 ∧ pFm t t2 ∧ N2 = nU N 6 (N 6 + 1) ∧ dWQ N2 Q2) ∨
    ∃ s2 t2, f_X8_readLesson s1 = some (0, s2) ∧ f_X12_readLesson_j19 (nI (N 6)) t = some t2 ∧ tBad s2 t2 ∧ pFc s s2 ∧ pFm t t2) := by
  have hB := dBd_6 hN
  obtain ⟨n0, n1, n2, n3, n4, n5, n6⟩ := hN
  have hSl : N 0 * N 1 ≤ 30 := Nat.mul_le_mul n0.2 n1.2
  have hSl1 : 1 ≤ N 0 * N 1 := Nat.mul_le_mul n0.1 n1.1
  obtain ⟨s1, t1, a1, _, a2, a3, a4, a5⟩ := p_go hT h
  refine ⟨s1, a1, ?_⟩
  rw [fe_X12_readLesson_j19]
  unfold fb_X12_readLesson_j19
  rw [a2, Option.bind_some]
  dsimp only
  rw [a3.2.2.1 0 (by omega), a3.2.2.1 1 (by omega), pk_mul, show nI (N 0 * N 1) - 1 = nI (N 0 * N 1 - 1) from pk_sub (b := 1) hSl1]
  have hsl : v_X7_slots_49 s1 - 1 = nI (N 0 * N 1 - 1) := by
    rw [ve_X7_slots_49]; unfold vb_X7_slots_49
    rw [a3.2.1.1 0 (by omega), a3.2.1.1 1 (by omega), pk_mul]
    exact pk_sub (b := 1) hSl1
  have hL : f_X8_readLesson s1 = fb_X8_readLesson s1 := by rw [fe_X8_readLesson]
  rw [hL]
  unfold fb_X8_readLesson
  dsimp only
  rw [hsl]
  rcases p_number hT (lo := 0) (hi := N 0 * N 1 - 1) (by omega) (by omega) a3 with ⟨x, _, hx, b1, s2, t2, b2, b3, b4, b5, b6⟩ | ⟨s2, t2, b1, b2, b3, b4, b5⟩
  rotate_left
  · right
    have ht2 : dM2 74 N Q t2 := by
      rcases l_number hT (lo := 0) (hi := N 0 * N 1 - 1) (by omega) (by omega) a3.1 with ⟨_, _, c3, _⟩ | ⟨s3, t3, c1, c2, c3, c4, c5⟩
      · rw [c3] at b1; exact absurd (show (1 : Int32) = 0 from congrArg Prod.fst b1) (by decide)
      · rw [c2] at b2
        have e := (Prod.mk.inj (Option.some.inj b2)).2
        rw [← e]
        exact dM2_m c5 a3.2.2
    rw [show v_X8_checkNumber 0 (nI (N 0 * N 1 - 1)) s1 = (0, s2) from b1, show f_X12_number 0 (nI (N 0 * N 1 - 1)) t1 = some (0, t2) from b2, Option.bind_some]
    dsimp only
    rw [if_pos rfl, z_see b3.2.2, Option.bind_some]
    dsimp only
    have hth : f_X12_isThere 35 0 0 t2 = some (aB (tkn N Q 5 0 0)) := m_isThere n6 ht2 (a := 5) (by omega) (by omega) 0 0
    rw [hth, Option.bind_some, z_wrong b3.2.2, z_j74 n6 b3.2.2 ht2]
    exact ⟨s2, t2, rfl, by split <;> rfl, b3, pFc_trans a4 b4, pFm_trans a5 b5⟩
  rw [show v_X8_checkNumber 0 (nI (N 0 * N 1 - 1)) s1 = (1, s1) from b1, show f_X12_number 0 (nI (N 0 * N 1 - 1)) t1 = some (nI x, t2) from b3, Option.bind_some]
  dsimp only
  rw [if_neg (show ¬ (1 : Int32) = 0 by decide), b2, Option.bind_some]
  dsimp only
  rw [b4.2.1.1 5 (by omega), b4.2.2.1 5 (by omega)]
  -- the class
  rcases l_untaken_58 hT n6 n5.1 (by omega) b4 (nI x) with ⟨g, hg, tg, c1, c2, c3, c4⟩ | ⟨s3, v, t3, b, hv, c1, c2, c3, c4, c5, c6, c7⟩
  rotate_left
  · right
    rw [c1, c2, Option.bind_some, Option.bind_some]
    dsimp only
    rw [if_pos rfl, c3, Option.bind_some, if_c, z_j74 n6 c4.2.2 c7]
    exact ⟨s3, _, rfl, rfl, c4, pFc_trans a4 (pFc_trans b5 c5), pFm_trans a5 (pFm_trans b6 c6)⟩
  rw [c1, c3, Option.bind_some, Option.bind_some]
  dsimp only
  rw [if_neg (show ¬ (1 : Int32) = 0 by decide), c4, Option.bind_some, if_pos rfl, fe_X8_readLesson_j48, fe_X12_readLesson_j74]
  unfold fb_X8_readLesson_j48 fb_X12_readLesson_j74
  obtain ⟨s3, t3, _, d1, d2, d3, d4, d5⟩ := p_go hT b4
  rw [d1, d2, Option.bind_some, Option.bind_some, c2]
  dsimp only
  rw [d3.2.1.1 2 (by omega), d3.2.2.1 2 (by omega), show nI (N 2) - 1 = nI (N 2 - 1) from pk_sub (b := 1) n2.1]
  rcases p_number hT (lo := 0) (hi := N 2 - 1) (by omega) (by omega) d3 with ⟨u, _, hu, e1, s4, t4, e2, e3, e4, e5, e6⟩ | ⟨s4, t4, e1, e2, e3, e4, e5⟩
  rotate_left
  · right
    have ht4 : dM2 74 N Q t4 := by
      rcases l_number hT (lo := 0) (hi := N 2 - 1) (by omega) (by omega) d3.1 with ⟨_, _, c3, _⟩ | ⟨s5, t5, c1, c2, c3, c4, c5⟩
      · rw [c3] at e1; exact absurd (show (1 : Int32) = 0 from congrArg Prod.fst e1) (by decide)
      · rw [c2] at e2
        have e := (Prod.mk.inj (Option.some.inj e2)).2
        rw [← e]
        exact dM2_m c5 d3.2.2
    rw [show v_X8_checkNumber 0 (nI (N 2 - 1)) s3 = (0, s4) from e1, show f_X12_number 0 (nI (N 2 - 1)) t3 = some (0, t4) from e2, Option.bind_some]
    dsimp only
    rw [if_pos rfl, z_see e3.2.2, Option.bind_some]
    dsimp only
    have hth : f_X12_isThere 155 0 (nI x) t4 = some (aB (tkn N Q 8 (nI x) 0)) := m_isThere n6 ht4 (a := 8) (by omega) (by omega) (nI x) 0
    rw [hth, Option.bind_some, z_wrong e3.2.2, show (0 : Int32) = nI 0 from rfl, z_j126 n6 e3.2.2 ht4 _ _ _ (show 0 < 40 by omega) (show 0 < 40 by omega)]
    exact ⟨s4, t4, rfl, by split <;> rfl, e3, pFc_trans a4 (pFc_trans b5 (pFc_trans d4 e4)), pFm_trans a5 (pFm_trans b6 (pFm_trans d5 e5))⟩
  rw [show v_X8_checkNumber 0 (nI (N 2 - 1)) s3 = (1, s3) from e1, show f_X12_number 0 (nI (N 2 - 1)) t3 = some (nI u, t4) from e3, Option.bind_some]
  dsimp only
  rw [if_neg (show ¬ (1 : Int32) = 0 by decide), e2, Option.bind_some]
  dsimp only
  rw [e4.2.1.1 3 (by omega), e4.2.2.1 3 (by omega)]
  -- the teacher
  rcases l_untaken_64 hT n6 n3.1 (by omega) e4 (nI x) with ⟨v, hv, tv, f1, f2, f3, f4⟩ | ⟨s5, v, t5, b, hv, f1, f2, f3, f4, f5, f6, f7⟩
  rotate_left
  · right
    rw [f1, f2, Option.bind_some, Option.bind_some]
    dsimp only
    rw [if_pos rfl, f3, Option.bind_some, if_c, z_j126 n6 f4.2.2 f7 _ _ _ (show u < 40 by omega) (show v < 40 by omega)]
    exact ⟨s5, _, rfl, rfl, f4, pFc_trans a4 (pFc_trans b5 (pFc_trans d4 (pFc_trans e5 f5))), pFm_trans a5 (pFm_trans b6 (pFm_trans d5 (pFm_trans e6 f6)))⟩
  rw [f1, f3, Option.bind_some, Option.bind_some]
  dsimp only
  rw [if_neg (show ¬ (1 : Int32) = 0 by decide), f4, Option.bind_some, if_pos rfl, fe_X8_readLesson_j101, fe_X12_readLesson_j126]
  unfold fb_X8_readLesson_j101 fb_X12_readLesson_j126
  have hq : v_X7_isQualified_49 (nI v) (nI u) s4 = aB (dHb (Q 3 v) (nI u)) := by
    rw [ve_X7_isQualified_49]; unfold vb_X7_isQualified_49
    have ht : v_X7_hasTeacher_49 (nI v) s4 = 1 := by
      rw [ve_X7_hasTeacher_49]; unfold vb_X7_hasTeacher_49
      rw [e4.2.1.1 3 (by omega), if_neg (nI_pos (by omega)), if_neg (nI_ge hv (by omega))]
    rw [ht, if_neg (by decide), d_at (show v < 8 by omega) (by omega), e4.2.1.2 3 (by omega) (by omega) v (by unfold gov; simp; omega), dc_hasBit (show u < 31 by omega)]
    cases dHb (Q 3 v) (nI u) <;> rfl
  rw [f2, hq, d_a21, if_neg (nI_in (c := 21 + v) (N := 235) (by omega) (by omega)), d_cl (show 21 + v < 2147483648 by omega), show t4 74 (21 + v) = Q 3 v from e4.2.2.2 3 (by omega) (by omega) v (by unfold gov; simp; omega), dm_has]
  cases hqq : dHb (Q 3 v) (nI u)
  · right
    rw [if_pos (show aB false = 0 from rfl), if_pos (show aB false = 0 from rfl)]
    rcases l_fail e4.1 (k := 4) (by omega) (by omega) with ⟨s5, t5, g1, g2, g3, g4, g5⟩
    dsimp only
    rw [show v_X8_fail 4 s4 = (0, s5) from g1, show v_X12_wrong 4 t4 = t5 from g2, z_j149 n6 g3.2.2 (dM2_m g5 e4.2.2) _ _ _ (show u < 40 by omega)]
    exact ⟨s5, t5, rfl, rfl, g3, pFc_trans a4 (pFc_trans b5 (pFc_trans d4 (pFc_trans e5 (pFc_t g4)))), pFm_trans a5 (pFm_trans b6 (pFm_trans d5 (pFm_trans e6 (pFm_m g5))))⟩
  rw [if_neg (show ¬ aB true = 0 by decide), if_neg (show ¬ aB true = 0 by decide), fe_X12_readLesson_j149]
  unfold fb_X12_readLesson_j149
  obtain ⟨s5, t5, _, g1, g2, g3, g4, g5⟩ := p_go hT e4
  rw [g1, g2, Option.bind_some, Option.bind_some, f2]
  dsimp only
  rw [g3.2.1.1 4 (by omega), g3.2.2.1 4 (by omega)]
  -- the room
  rcases l_untaken_66 hT n6 n4.1 (by omega) g3 (nI x) with ⟨r, hr, tr, k1, k2, k3, k4⟩ | ⟨s6, r, t6, b, hr, k1, k2, k3, k4, k5, k6, k7⟩
  rotate_left
  · right
    rw [k1, k2, Option.bind_some, Option.bind_some]
    dsimp only
    rw [if_pos rfl, k3, Option.bind_some, if_c, z_j186 k4.2.2 _ _ _ (show u < 40 by omega) (show r < 40 by omega)]
    exact ⟨s6, _, rfl, rfl, k4, pFc_trans a4 (pFc_trans b5 (pFc_trans d4 (pFc_trans e5 (pFc_trans g4 k5)))), pFm_trans a5 (pFm_trans b6 (pFm_trans d5 (pFm_trans e6 (pFm_trans g5 k6))))⟩
  rw [k1, k3, Option.bind_some, Option.bind_some]
  dsimp only
  rw [if_neg (show ¬ (1 : Int32) = 0 by decide), k4, Option.bind_some, if_pos rfl, fe_X8_readLesson_j155, fe_X12_readLesson_j186]
  unfold fb_X8_readLesson_j155 fb_X12_readLesson_j186
  rw [k2, d_at (show r < 6 by omega) (by omega), d_at (show u < 6 by omega) (by omega), d_a29, d_a7, if_neg (nI_in (c := 29 + r) (N := 235) (by omega) (by omega)), if_neg (nI_in (c := 7 + u) (N := 235) (by omega) (by omega)), d_cl (show 29 + r < 2147483648 by omega), d_cl (show 7 + u < 2147483648 by omega)]
  rw [g3.2.1.2 4 (by omega) (by omega) r (by unfold gov; simp; omega), g3.2.1.2 1 (by omega) (by omega) u (by unfold gov; simp; omega), show t5 74 (29 + r) = Q 4 r from g3.2.2.2 4 (by omega) (by omega) r (by unfold gov; simp; omega), show t5 74 (7 + u) = Q 1 u from g3.2.2.2 1 (by omega) (by omega) u (by unfold gov; simp; omega)]
  by_cases hk : Q 4 r = Q 1 u
  rotate_left
  · right
    rw [if_neg hk, if_neg hk]
    rcases l_fail g3.1 (k := 4) (by omega) (by omega) with ⟨s6, t6, q1, q2, q3, q4, q5⟩
    dsimp only
    rw [show v_X8_fail 4 s5 = (0, s6) from q1, show v_X12_wrong 4 t5 = t6 from q2, z_j214 q3.2.2]
    exact ⟨s6, t6, rfl, rfl, q3, pFc_trans a4 (pFc_trans b5 (pFc_trans d4 (pFc_trans e5 (pFc_trans g4 (pFc_t q4))))), pFm_trans a5 (pFm_trans b6 (pFm_trans d5 (pFm_trans e6 (pFm_trans g5 (pFm_m q5)))))⟩
  rw [if_pos hk, if_pos hk, fe_X12_readLesson_j214]
  unfold fb_X12_readLesson_j214
  obtain ⟨s6, t6, _, q1, q2, q3, q4, q5⟩ := p_go hT g3
  rw [q1, q2, Option.bind_some, Option.bind_some, k2]
  dsimp only
  obtain ⟨w1, w2⟩ := c_addLesson h40 q3.2.1 (nI x) (nI g) (nI u) (nI v) (nI r)
  have hpre : pFc s s6 := pFc_trans a4 (pFc_trans b5 (pFc_trans d4 (pFc_trans e5 (pFc_trans g4 q4))))
  have hpm : pFm t t6 := pFm_trans a5 (pFm_trans b6 (pFm_trans d5 (pFm_trans e6 (pFm_trans g5 q5))))
  generalize v_X7_addLesson_49 (nI x) (nI g) (nI u) (nI v) (nI r) s6 = s7 at w1 w2 ⊢
  have hok : tOkay T L (tX T L (tX T L (tX T L (tX T L (tX T L (tX T L st)))))) s7 t6 := tOkay_c (w2 45 (by decide) (by decide) (by decide) (by decide) (by decide) (by decide)) (w2 47 (by decide) (by decide) (by decide) (by decide) (by decide) (by decide)) rfl rfl q3.1
  have f7 : pFc s6 s7 := fun c _ hc => w2 c (by omega) (by omega) (by omega) (by omega) (by omega) (by omega)
  rcases l_semi hT hok with ⟨s8, t8, y1, y2, y3, y4, y5⟩ | ⟨s8, t8, y1, y2, y3, y4, y5⟩
  · left
    rw [y1, y2, Option.bind_some, Option.bind_some]
    dsimp only
    have hM8 := dM2_m y5 q3.2.2
    have m7 : dM2 74 N (pS Q 7 (N 6) (nI x)) (ga_up t8 74 (115 + N 6) (nI x)) := dM2_row (i := 7) (k := N 6) hB (by omega) (by omega) (by unfold cap; simp; omega) _ hM8
    have m5 : dM2 74 N (pS (pS Q 7 (N 6) (nI x)) 5 (N 6) (nI g)) (ga_up (ga_up t8 74 (115 + N 6) (nI x)) 74 (35 + N 6) (nI g)) := dM2_row (i := 5) (k := N 6) hB (by omega) (by omega) (by unfold cap; simp; omega) _ m7
    have m6 : dM2 74 N (pS (pS (pS Q 7 (N 6) (nI x)) 5 (N 6) (nI g)) 6 (N 6) (nI u)) (ga_up (ga_up (ga_up t8 74 (115 + N 6) (nI x)) 74 (35 + N 6) (nI g)) 74 (75 + N 6) (nI u)) := dM2_row (i := 6) (k := N 6) hB (by omega) (by omega) (by unfold cap; simp; omega) _ m5
    have m8 : dM2 74 N (pS (pS (pS (pS Q 7 (N 6) (nI x)) 5 (N 6) (nI g)) 6 (N 6) (nI u)) 8 (N 6) (nI v)) (ga_up (ga_up (ga_up (ga_up t8 74 (115 + N 6) (nI x)) 74 (35 + N 6) (nI g)) 74 (75 + N 6) (nI u)) 74 (155 + N 6) (nI v)) := dM2_row (i := 8) (k := N 6) hB (by omega) (by omega) (by unfold cap; simp; omega) _ m6
    have m9 : dM2 74 N (qL Q (N 6) (nI x) (nI g) (nI u) (nI v) (nI r)) (ga_up (ga_up (ga_up (ga_up (ga_up t8 74 (115 + N 6) (nI x)) 74 (35 + N 6) (nI g)) 74 (75 + N 6) (nI u)) 74 (155 + N 6) (nI v)) 74 (195 + N 6) (nI r)) := dM2_row (i := 9) (k := N 6) hB (by omega) (by omega) (by unfold cap; simp; omega) _ m8
    have hcnt := dM2_cnt (i := 6) (v := N 6 + 1) (by omega) m9 (Or.inr (Or.inl ⟨rfl, fun y hy hy9 hgy => by
      unfold qL pS
      rcases gov_59 y (by omega) hy hgy with rfl | rfl | rfl | rfl | rfl
      · show _ = _; simp [d_up_at, off]
      · show _ = _; simp [d_up_at, off]
      · show _ = _; simp [d_up_at, off]
      · show _ = _; simp [d_up_at, off]
      · show _ = _; simp [d_up_at, off]⟩))
    rw [y3.2.2.2.2.1, if_pos (show (0 : Int32) ≤ 0 by decide), d_a115, if_neg (nI_in (c := 115 + N 6) (N := 235) (by omega) (by omega)), d_a35, if_neg (nI_in (c := 35 + N 6) (N := 235) (by omega) (by omega)), d_a75, if_neg (nI_in (c := 75 + N 6) (N := 235) (by omega) (by omega)), d_a155, if_neg (nI_in (c := 155 + N 6) (N := 235) (by omega) (by omega)), d_a195, if_neg (nI_in (c := 195 + N 6) (N := 235) (by omega) (by omega))]
    rw [d_cl (show 115 + N 6 < 2147483648 by omega), d_cl (show 35 + N 6 < 2147483648 by omega), d_cl (show 75 + N 6 < 2147483648 by omega), d_cl (show 155 + N 6 < 2147483648 by omega), d_cl (show 195 + N 6 < 2147483648 by omega), m9.1 6 (by omega), d_p1]
    refine ⟨_, s8, _, _, _, rfl, rfl, ⟨tOkay_c rfl rfl (by simp only [d_up_ne, ne_eq, reduceCtorEq, not_false_eq_true, Nat.reduceEqDiff]) (by simp only [d_up_ne, ne_eq, reduceCtorEq, not_false_eq_true, Nat.reduceEqDiff]) y3, dC2_t y4 w1, hcnt⟩, pFc_trans hpre (pFc_trans f7 (pFc_t y4)), pFm_trans hpm (pFm_trans (pFm_m y5) (pFm_trans (pFm_up _ _ _) (pFm_trans (pFm_up _ _ _) (pFm_trans (pFm_up _ _ _) (pFm_trans (pFm_up _ _ _) (pFm_trans (pFm_up _ _ _) (pFm_up _ _ _))))))), rfl, dWQ_add hQ (by unfold dSl; omega) (by omega) hv hr tv tr⟩
  · right
    rw [y1, y2, Option.bind_some, Option.bind_some]
    dsimp only
    rw [if_neg (z_le y3.2.2)]
    exact ⟨s8, t8, rfl, rfl, y3, pFc_trans hpre (pFc_trans f7 (pFc_t y4)), pFm_trans hpm (pFm_m y5)⟩
end D50
