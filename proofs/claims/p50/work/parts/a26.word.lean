section D56
/-! ===== a script's words and numbers ===== -/
variable {T : Nat → Nat} {L : Nat} {s t : ga_M}
def sW : Nat → List Nat
  | 0 => [97, 98, 115, 101, 110, 116]
  | 1 => [112, 114, 101, 115, 101, 110, 116]
  | 2 => [99, 111, 118, 101, 114]
  | 3 => [119, 97, 116, 99, 104]
  | 4 => [115, 119, 97, 112]
  | 5 => [109, 111, 118, 101]
  | 6 => [114, 111, 111, 109]
  | 7 => [114, 101, 112, 97, 105, 114]
  | 8 => [111, 112, 101, 110]
  | _ => [97, 108, 108]
def rM : Nat → Int32
  | 0 => 0
  | 1 => 1
  | 2 => 2
  | 3 => 3
  | 4 => 6
  | 5 => 7
  | 6 => 8
  | 7 => 4
  | 8 => 9
  | _ => 5
theorem tW_inj {st : Nat} {a b : List Nat} (ha : tW T L st a = true) (hb : tW T L st b = true) : a = b := by
  unfold tW at ha hb
  rw [Bool.and_eq_true, decide_eq_true_eq, decide_eq_true_eq] at ha hb
  refine List.ext_getElem (by omega) (fun i h1 h2 => ?_)
  have e1 := ha.2 i h1
  have e2 := hb.2 i h2
  rw [List.getD_eq_getElem?_getD, List.getElem?_eq_getElem h1] at e1
  rw [List.getD_eq_getElem?_getD, List.getElem?_eq_getElem h2] at e2
  exact e1.symm.trans e2
theorem c_wordAt (hT : tOk T L) {st : Nat} (h : cK T L st s) {k : Nat} (hk : k < 10) : f_X10_isWord (v_X9_wordOf (nI k) s) s = some (aB (tW T L st (sW k))) := by
  have hv : v_X9_wordOf (nI k) s = 1006 + k := by
    rw [ve_X9_wordOf]; unfold vb_X9_wordOf
    rcases (show k = 0 ∨ k = 1 ∨ k = 2 ∨ k = 3 ∨ k = 4 ∨ k = 5 ∨ k = 6 ∨ k = 7 ∨ k = 8 ∨ k = 9 by omega) with rfl | rfl | rfl | rfl | rfl | rfl | rfl | rfl | rfl | rfl
    all_goals decide
  rw [hv]
  rcases (show k = 0 ∨ k = 1 ∨ k = 2 ∨ k = 3 ∨ k = 4 ∨ k = 5 ∨ k = 6 ∨ k = 7 ∨ k = 8 ∨ k = 9 by omega) with rfl | rfl | rfl | rfl | rfl | rfl | rfl | rfl | rfl | rfl
  all_goals exact c_isWord hT h ⟨rfl, by decide, by decide, by decide⟩ rfl
theorem c_findStep (hT : tOk T L) {st : Nat} (h : cK T L st s) : (∃ j, j < 10 ∧ tW T L st (sW j) = true ∧ f_X9_findStep s = some (nI j)) ∨ ((∀ j, j < 10 → tW T L st (sW j) = false) ∧ f_X9_findStep s = some (-1)) := by
  have key : ∀ m k n, k + m = 10 → m < n → (∀ j, j < k → tW T L st (sW j) = false) → (∃ j, j < 10 ∧ tW T L st (sW j) = true ∧ f_X9_findStep_h2 n (nI k) s = some (nI j)) ∨ ((∀ j, j < 10 → tW T L st (sW j) = false) ∧ f_X9_findStep_h2 n (nI k) s = some (-1)) := by
    intro m
    induction m with
    | zero =>
      intro k n hk hn hj
      obtain ⟨n, rfl⟩ : ∃ j, n = j + 1 := ⟨n - 1, by omega⟩
      have : k = 10 := by omega
      subst this
      refine Or.inr ⟨hj, ?_⟩
      rw [f_X9_findStep_h2, if_pos (show (10 : Int32) ≤ nI 10 by decide)]
    | succ m ih =>
      intro k n hk hn hj
      obtain ⟨n, rfl⟩ : ∃ j, n = j + 1 := ⟨n - 1, by omega⟩
      rw [f_X9_findStep_h2]
      dsimp only
      rw [if_neg (show ¬ (10 : Int32) ≤ nI k from nI_ge (b := 10) (by omega) (by omega)), c_wordAt hT h (show k < 10 by omega), Option.bind_some, d_p1]
      cases c : tW T L st (sW k)
      · rw [if_pos (show aB false = 0 from rfl)]
        exact ih (k + 1) n (by omega) (by omega) (fun j hj2 => by
          by_cases e : j = k
          · rw [e]; exact c
          · exact hj j (by omega))
      · rw [if_neg (show ¬ aB true = 0 by decide)]
        exact Or.inl ⟨k, by omega, c, rfl⟩
  rw [fe_X9_findStep]; unfold fb_X9_findStep
  exact key 10 0 ga_fuel (by omega) (d_fuel (by omega)) (fun j hj => by omega)
theorem w_s0 : wOk 1045 [97, 98, 115, 101, 110, 116] := ⟨rfl, by decide, by decide, by decide⟩
theorem w_s1 : wOk 1046 [112, 114, 101, 115, 101, 110, 116] := ⟨rfl, by decide, by decide, by decide⟩
theorem w_s2 : wOk 1047 [99, 111, 118, 101, 114] := ⟨rfl, by decide, by decide, by decide⟩
theorem w_s3 : wOk 1048 [119, 97, 116, 99, 104] := ⟨rfl, by decide, by decide, by decide⟩
theorem w_s4 : wOk 1051 [115, 119, 97, 112] := ⟨rfl, by decide, by decide, by decide⟩
theorem w_s5 : wOk 1052 [109, 111, 118, 101] := ⟨rfl, by decide, by decide, by decide⟩
theorem w_s6 : wOk 1042 [114, 111, 111, 109] := ⟨rfl, by decide, by decide, by decide⟩
theorem w_s7 : wOk 1049 [114, 101, 112, 97, 105, 114] := ⟨rfl, by decide, by decide, by decide⟩
theorem w_s8 : wOk 1053 [111, 112, 101, 110] := ⟨rfl, by decide, by decide, by decide⟩
theorem w_s9 : wOk 1050 [97, 108, 108] := ⟨rfl, by decide, by decide, by decide⟩
/-! a number of at most four digits -/
theorem tN_4 {k i : Nat} (hk : k ≤ 4) (h : ∀ j, j < k → T (i + j) ≤ 57) : tN T k i 0 ≤ 9999 := by
  rcases (show k = 0 ∨ k = 1 ∨ k = 2 ∨ k = 3 ∨ k = 4 by omega) with rfl | rfl | rfl | rfl | rfl
  · simp only [tN]; omega
  · have := h 0 (by omega)
    simp only [tN, Nat.add_zero] at *; omega
  · have := h 0 (by omega)
    have := h 1 (by omega)
    simp only [tN, Nat.add_zero] at *; omega
  · have := h 0 (by omega)
    have := h 1 (by omega)
    have := h 2 (by omega)
    simp only [tN, Nat.add_zero, Nat.add_assoc, Nat.reduceAdd] at *; omega
  · have := h 0 (by omega)
    have := h 1 (by omega)
    have := h 2 (by omega)
    have := h 3 (by omega)
    simp only [tN, Nat.add_zero, Nat.add_assoc, Nat.reduceAdd] at *; omega
theorem tV_4 (hT : tOk T L) {st : Nat} (hst : st ≤ L) (hk : tK T L st = 2) (h4 : tE T L st - st ≤ 4) : tV T L st ≤ 9999 := by
  have hL := hT.1
  obtain ⟨h1, h2, h3⟩ := tK2 hk
  have hE := tE_le (T := T) hL hst
  have hr := tRun_spec (T := T) (L := L) (p := tDi) rfl 901 st (by omega) hst
  unfold tV
  refine tN_4 h4 (fun j hj => ?_)
  have hd := hr.2.2.2 (st + j) (by omega) (by rw [← h3]; omega)
  rw [tB_lt (by omega)] at hd
  unfold tDi at hd
  simp at hd
  omega
theorem x_fail (k : Int32) : v_X10_fail k (s 45 3) s = v_X8_fail k s := by rw [ve_X8_fail]; rfl
end D56
