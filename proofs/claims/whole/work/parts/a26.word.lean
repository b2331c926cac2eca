section D56
/-! ===== a script's words and numbers ===== -/
variable {T : Nat → Nat} {L : Nat} {s t : ga_M}
def sW : Nat → List Nat
  | 0 => [97, 98, 115, 101, 110, 116]
  | 1 => [112, 114, 101, 115, 101, 110, 116]
  | 2 => [99, 111, 118, 101, 114]
  | 3 => [119, 97, 116, 99, 104]
  | 4 => [115, 119, 97, 112]
  | 5 => [109, 111, 118, 101]
  | 6 => [114, 111, 111, 109]
  | 7 => [114, 101, 112, 97, 105, 114]
  | 8 => [111, 112, 101, 110]
  | _ => [97, 108, 108]
def rM : Nat → Int32
  | 0 => 0
  | 1 => 1
  | 2 => 2
  | 3 => 3
  | 4 => 6
  | 5 => 7
  | 6 => 8
  | 7 => 4
  | 8 => 9
  | _ => 5
theorem tW_inj {st : Nat} {a b : List Nat} (ha : tW T L st a = true) (hb : tW T L st b = true) : a = b := by
  unfold tW at ha hb
  rw [Bool.and_eq_true, decide_eq_true_eq, decide_eq_true_eq] at ha hb
  refine List.ext_getElem (by omega) (fun i h1 h2 => ?_)
  have e1 := ha.2 i h1
  have e2 := hb.2 i h2
  rw [List.getD_eq_getElem?_getD, List.getElem?_eq_getElem h1] at e1
  rw [List.getD_eq_getElem?_getD, List.getElem?_eq_getElem h2] at e2
  exact e1.symm.trans e2
theorem c_wordAt (hT : tOk T L) {st : Nat} (h : cK T L st s) {k : Nat} (hk : k < 10) : f_X10_isWord (v_X9_wordOf (nI k) s) s = some (aB (tW T L st (sW k))) := by
  have hv : v_X9_wordOf (nI k) s = 1006 + k := by
    rw [ve_X9_wordOf]; unfold vb_X9_wordOf
    rcases (show k = 0 ∨ k = 1 ∨ k = 2 ∨ k = 3 ∨ k = 4 ∨ k = 5 ∨ k = 6 ∨ k = 7 ∨ k = 8 ∨ k = 9 by omega) with rfl | rfl | rfl | rfl | rfl | rfl | rfl | rfl | rfl | rfl
    all_goals decide
  rw [hv]
  rcases (show k = 0 ∨ k = 1 ∨ k = 2 ∨ k = 3 ∨ k = 4 ∨ k = 5 ∨ k = 6 ∨ k = 7 ∨ k = 8 ∨ k = 9 by omega) with rfl | rfl | rfl | rfl | rfl | rfl | rfl | rfl | rfl | rfl
  all_goals exact c_isWord hT h ⟨rfl, by decide, by decide, by decide⟩ rfl
theorem c_findStep (hT : tOk T L) {st : Nat} (h : cK T L st s) : (∃ j, j < 10 ∧ tW T L st (sW j) = true ∧ f_X9_findStep s = some (nI j)) ∨ ((∀ j, j < 10 → tW T L st (sW j) = false) ∧ f_X9_findStep s = some (-1)) := by
  have key : ∀ m k n, k + m = 10 → m < n → (∀ j, j < k → tW T L st (sW j) = false) → (∃ j, j < 10 ∧ tW T L st (sW j) = true ∧ f_X9_findStep_h2 n (nI k) s = some (nI j)) ∨ ((∀ j, j < 10 → tW T L st (sW j) = false) ∧ f_X9_findStep_h2 n (nI k) s = some (-1)) := by
    intro m
    induction m with
    | zero =>
      intro k n hk hn hj
      obtain ⟨n, rfl⟩ : ∃ j, n = j + 1 := ⟨n - 1, by omega⟩
      have : k = 10 := by omega
      subst this
      refine Or.inr ⟨hj, ?_⟩
      rw [f_X9_findStep_h2, if_pos (show (10 : Int32) ≤ nI 10 by decide)]
    | succ m ih =>
      intro k n hk hn hj
      obtain ⟨n, rfl⟩ : ∃ j, n = j + 1 := ⟨n - 1, by omega⟩
      rw [f_X9_findStep_h2]
      dsimp only
      rw [if_neg (show ¬ (10 : Int32) ≤ nI k from nI_ge (b := 10) (by omega) (by omega)), c_wordAt hT h (show k < 10 by omega), Option.bind_some, d_p1]
      cases c : tW T L st (sW k)
      · rw [if_pos (show aB false = 0 from rfl)]
        exact ih (k + 1) n (by omega) (by omega) (fun j hj2 => by
          by_cases e : j = k
          · rw [e]; exact c
          · exact hj j (by omega))
      · rw [if_neg (show ¬ aB true = 0 by decide)]
        exact Or.inl ⟨k, by omega, c, rfl⟩
  rw [fe_X9_findStep]; unfold fb_X9_findStep
  exact key 10 0 ga_fuel (by omega) (d_fuel (by omega)) (fun j hj => by omega)
theorem w_s0 : wOk 1045 [97, 98, 115, 101, 110, 116] := ⟨rfl, by decide, by decide, by decide⟩
theorem w_s1 : wOk 1046 [112, 114, 101, 115, 101, 110, 116] := ⟨rfl, by decide, by decide, by decide⟩
theorem w_s2 : wOk 1047 [99, 111, 118, 101, 114] := ⟨rfl, by decide, by decide, by decide⟩
theorem w_s3 : wOk 1048 [119, 97, 116, 99, 104] := ⟨rfl, by decide, by decide, by decide⟩
theorem w_s4 : wOk 1051 [115, 119, 97, 112] := ⟨rfl, by decide, by decide, by decide⟩
theorem w_s5 : wOk 1052 [109, 111, 118, 101] := ⟨rfl, by decide, by decide, by decide⟩
theorem w_s6 : wOk 1042 [114, 111, 111, 109] := ⟨rfl, by decide, by decide, by decide⟩
theorem w_s7 : wOk 1049 [114, 101, 112, 97, 105, 114] := ⟨rfl, by decide, by decide, by decide⟩
theorem w_s8 : wOk 1053 [111, 112, 101, 110] := ⟨rfl, by decide, by decide, by decide⟩
theorem w_s9 : wOk 1050 [97, 108, 108] := ⟨rfl, by decide, by decide, by decide⟩
theorem m_stepHere (hT : tOk T L) {st : Nat} (h : mK T L st t) (h16 : t 72 16 = 0) : (∀ j, j < 10 → tW T L st (sW j) = true → f_X12_stepHere t = some (rM j)) ∧ ((∀ j, j < 10 → tW T L st (sW j) = false) → f_X12_stepHere t = some (-1)) := by
  rw [fe_X12_stepHere]; unfold fb_X12_stepHere
  simp only [m_isWord hT h h16 w_s0, m_isWord hT h h16 w_s1, m_isWord hT h h16 w_s2, m_isWord hT h h16 w_s3, m_isWord hT h h16 w_s4, m_isWord hT h h16 w_s5, m_isWord hT h h16 w_s6, m_isWord hT h h16 w_s7, m_isWord hT h h16 w_s8, m_isWord hT h h16 w_s9, Option.bind_some]
  refine ⟨fun j hj hw => ?_, fun hn => ?_⟩
  · have hx : ∀ i, i < 10 → tW T L st (sW i) = decide (i = j) := fun i hi => by
      by_cases e : i = j
      · rw [e, hw]; simp
      · rw [decide_eq_false e]
        cases c : tW T L st (sW i)
        · rfl
        · have := tW_inj c hw
          have inj : ∀ a, a < 10 → ∀ b, b < 10 → sW a = sW b → a = b := by decide
          exact absurd (inj i hi j hj this) e
    have x0 : tW T L st [97, 98, 115, 101, 110, 116] = decide (0 = j) := hx 0 (by omega)
    have x1 : tW T L st [112, 114, 101, 115, 101, 110, 116] = decide (1 = j) := hx 1 (by omega)
    have x2 : tW T L st [99, 111, 118, 101, 114] = decide (2 = j) := hx 2 (by omega)
    have x3 : tW T L st [119, 97, 116, 99, 104] = decide (3 = j) := hx 3 (by omega)
    have x4 : tW T L st [115, 119, 97, 112] = decide (4 = j) := hx 4 (by omega)
    have x5 : tW T L st [109, 111, 118, 101] = decide (5 = j) := hx 5 (by omega)
    have x6 : tW T L st [114, 111, 111, 109] = decide (6 = j) := hx 6 (by omega)
    have x7 : tW T L st [114, 101, 112, 97, 105, 114] = decide (7 = j) := hx 7 (by omega)
    have x8 : tW T L st [111, 112, 101, 110] = decide (8 = j) := hx 8 (by omega)
    have x9 : tW T L st [97, 108, 108] = decide (9 = j) := hx 9 (by omega)
    rw [x0, x1, x2, x3, x4, x5, x6, x7, x8, x9]
    rcases (show j = 0 ∨ j = 1 ∨ j = 2 ∨ j = 3 ∨ j = 4 ∨ j = 5 ∨ j = 6 ∨ j = 7 ∨ j = 8 ∨ j = 9 by omega) with rfl | rfl | rfl | rfl | rfl | rfl | rfl | rfl | rfl | rfl
    all_goals decide
  · have x0 : tW T L st [97, 98, 115, 101, 110, 116] = false := hn 0 (by omega)
    have x1 : tW T L st [112, 114, 101, 115, 101, 110, 116] = false := hn 1 (by omega)
    have x2 : tW T L st [99, 111, 118, 101, 114] = false := hn 2 (by omega)
    have x3 : tW T L st [119, 97, 116, 99, 104] = false := hn 3 (by omega)
    have x4 : tW T L st [115, 119, 97, 112] = false := hn 4 (by omega)
    have x5 : tW T L st [109, 111, 118, 101] = false := hn 5 (by omega)
    have x6 : tW T L st [114, 111, 111, 109] = false := hn 6 (by omega)
    have x7 : tW T L st [114, 101, 112, 97, 105, 114] = false := hn 7 (by omega)
    have x8 : tW T L st [111, 112, 101, 110] = false := hn 8 (by omega)
    have x9 : tW T L st [97, 108, 108] = false := hn 9 (by omega)
    rw [x0, x1, x2, x3, x4, x5, x6, x7, x8, x9]
    decide
/-! a number of at most four digits -/
theorem tN_4 {k i : Nat} (hk : k ≤ 4) (h : ∀ j, j < k → T (i + j) ≤ 57) : tN T k i 0 ≤ 9999 := by
  rcases (show k = 0 ∨ k = 1 ∨ k = 2 ∨ k = 3 ∨ k = 4 by omega) with rfl | rfl | rfl | rfl | rfl
  · simp only [tN]; omega
  · have := h 0 (by omega)
    simp only [tN, Nat.add_zero] at *; omega
  · have := h 0 (by omega)
    have := h 1 (by omega)
    simp only [tN, Nat.add_zero] at *; omega
  · have := h 0 (by omega)
    have := h 1 (by omega)
    have := h 2 (by omega)
    simp only [tN, Nat.add_zero, Nat.add_assoc, Nat.reduceAdd] at *; omega
  · have := h 0 (by omega)
    have := h 1 (by omega)
    have := h 2 (by omega)
    have := h 3 (by omega)
    simp only [tN, Nat.add_zero, Nat.add_assoc, Nat.reduceAdd] at *; omega
theorem tV_4 (hT : tOk T L) {st : Nat} (hst : st ≤ L) (hk : tK T L st = 2) (h4 : tE T L st - st ≤ 4) : tV T L st ≤ 9999 := by
  have hL := hT.1
  obtain ⟨h1, h2, h3⟩ := tK2 hk
  have hE := tE_le (T := T) hL hst
  have hr := tRun_spec (T := T) (L := L) (p := tDi) rfl 901 st (by omega) hst
  unfold tV
  refine tN_4 h4 (fun j hj => ?_)
  have hd := hr.2.2.2 (st + j) (by omega) (by rw [← h3]; omega)
  rw [tB_lt (by omega)] at hd
  unfold tDi at hd
  simp at hd
  omega
theorem x_fail (k : Int32) : v_X10_fail k (s 45 3) s = v_X8_fail k s := by rw [ve_X8_fail]; rfl
theorem l_figure (hT : tOk T L) {st : Nat} (h : tOkay T L st s t) :
    (s 45 2 = 2 ∧ (s 45 4) - (s 45 3) ≤ 4 ∧ f_X12_figure t = (f_X12_goOn t).bind fun u => some (s 45 5, u)) ∨
    ((s 45 2 = 2 → ¬ (s 45 4) - (s 45 3) ≤ 4) ∧ ∃ s2 t2, v_X8_fail 1 s = (0, s2) ∧ f_X12_figure t = some (0, t2) ∧ tBad s2 t2 ∧ tF s s2 ∧ mF t t2) := by
  have h' := h
  obtain ⟨a, b, c, d, e, f⟩ := h'
  have hL := hT.1
  have hst := a.2.1
  have h5 := tK_lt T L st
  have hE := tE_le (T := T) hL hst
  obtain ⟨s2, t2, g1, g2, g3, g4, g5⟩ := l_fail h (k := 1) (by omega) (by omega)
  rw [fe_X12_figure]; unfold fb_X12_figure
  rw [e, if_pos rfl, b.2.2.1, m_isDigitAt hT b.1 (by omega), Option.bind_some, tK_dig, a.2.2.1, a.2.2.2.2.1, a.2.2.2.1, b.2.2.2, pk_sub hE.1]
  have e4 : (nI (tE T L st - st) ≤ 4) = (tE T L st - st ≤ 4) := d_le (b := 4) (by omega) (by omega)
  simp only [e4]
  by_cases ck : tK T L st = 2
  · rw [ck, decide_eq_true (show (2 : Nat) = 2 from rfl), if_neg (show ¬ aB true = 0 by decide)]
    obtain ⟨v, ev, r1, _⟩ := m_digits hT b ck
    by_cases c4 : tE T L st - st ≤ 4
    · left
      have hv := tV_4 hT hst ck c4
      have hv2 := r1 (by omega)
      refine ⟨rfl, c4, ?_⟩
      rw [if_pos c4, if_pos (show (0 : Int32) ≤ 0 by decide), ev, Option.bind_some, a.2.2.2.2.2 ck, hv2, lN_i, show min (tV T L st) 1000000 = tV T L st by omega]
    · right
      refine ⟨fun _ => c4, s2, t2, g1, ?_, g3, g4, g5⟩
      rw [if_neg c4]
      rw [show v_X12_wrong 1 t = t2 from g2, if_neg (z_le g3.2.2), z_goOn g3.2.2, Option.bind_some]
  · right
    refine ⟨fun q => absurd ((nI_eq (b := 2) (by omega) (by omega)).mp q) ck, s2, t2, g1, ?_, g3, g4, g5⟩
    rw [decide_eq_false ck, if_pos (show aB false = 0 from rfl)]
    rw [show v_X12_wrong 1 t = t2 from g2, if_neg (z_le g3.2.2), z_goOn g3.2.2, Option.bind_some]
theorem z_figure (h : mZ t) : f_X12_figure t = some (0, t) := by
  rw [fe_X12_figure]; unfold fb_X12_figure
  rw [if_neg (z_ne h), if_neg (z_le h), z_goOn h, Option.bind_some]
end D56
