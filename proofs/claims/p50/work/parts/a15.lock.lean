section D45
/-! ===== both readers, step by step ===== -/
variable {T : Nat → Nat} {L : Nat} {s t : ga_M}
def nRel (v w : Nat) : Prop := (w ≤ 100000000 → v = w) ∧ (100000000 < w → 100000000 < v) ∧ v ≤ 1000000009
theorem tK2 {st : Nat} (h : tK T L st = 2) : st < L ∧ tDi (tB T L st) = true ∧ tE T L st = tRun tDi T L 901 st := by
  unfold tK at h
  split at h
  · omega
  · rename_i c1
    split at h
    · omega
    · rename_i c2
      split at h
      · rename_i c3
        refine ⟨by omega, c3, ?_⟩
        unfold tE
        rw [if_neg c1, if_neg c2, if_pos c3]
      · split at h <;> omega
theorem tK_dig (st : Nat) : tDi (tB T L st) = decide (tK T L st = 2) := by
  unfold tK
  by_cases c1 : L ≤ st
  · rw [if_pos c1, tB_ge c1]; rfl
  · rw [if_neg c1]
    by_cases c2 : tLe (tB T L st) = true
    · rw [if_pos c2]
      unfold tLe at c2
      rw [Bool.and_eq_true, decide_eq_true_eq, decide_eq_true_eq] at c2
      unfold tDi
      rw [decide_eq_false (show ¬ tB T L st ≤ 57 by omega), Bool.and_false]; rfl
    · rw [if_neg c2]
      cases c3 : tDi (tB T L st)
      · rw [if_neg (by decide)]
        split <;> rfl
      · rw [if_pos rfl]; rfl
def tOkay (T : Nat → Nat) (L st : Nat) (s t : ga_M) : Prop := cK T L st s ∧ mK T L st t ∧ s 45 6 = 0 ∧ s 45 7 = -1 ∧ t 72 16 = 0 ∧ t 72 17 = -1
def tBad (s t : ga_M) : Prop := s 45 6 = t 72 16 ∧ s 45 7 = t 72 17 ∧ mZ t
theorem c_fail {st : Nat} (h : cK T L st s) (k : Int32) : v_X8_fail k s = (0, ga_up (ga_up s 45 6 k) 45 7 (nI st)) := by
  rw [ve_X8_fail]; unfold vb_X8_fail
  rw [ve_X10_fail]; unfold vb_X10_fail
  rw [h.2.2.2.1]
theorem tW_semi (hT : tOk T L) {st : Nat} (hst : st ≤ L) : tW T L st [59] = decide (tK T L st = 3) := by
  unfold tW tE tK
  by_cases c1 : L ≤ st
  · rw [if_pos c1, if_pos c1, decide_eq_false (show ¬ L - st = [59].length by simp; omega)]; rfl
  · rw [if_neg c1, if_neg c1]
    have hb : (∀ i, i < [59].length → tB T L (st + i) = [59].getD i 0) ↔ tB T L st = 59 := by
      constructor
      · intro q; exact q 0 (by simp)
      · intro q i hi
        have : i = 0 := by simpa using hi
        subst this; exact q
    by_cases c4 : tB T L st = 59
    · rw [decide_eq_true (hb.mpr c4), c4]
      have e1 : tLe 59 = false := rfl
      have e2 : tDi 59 = false := rfl
      rw [e1, e2]
      simp
    · rw [decide_eq_false (fun q => c4 (hb.mp q)), Bool.and_false]
      have : ¬ (if tLe (tB T L st) = true then 1 else if tDi (tB T L st) = true then 2 else if tB T L st = 59 then 3 else 4) = 3 := by
        split
        · omega
        · split
          · omega
          · first | omega | (rw [if_neg c4]; omega)
      rw [decide_eq_false this]
end D45
