section D51
/-! ===== the school's text as a whole ===== -/
variable {T : Nat → Nat} {L : Nat} {N : Nat → Nat} {Q : Nat → Nat → Int32} {s t : ga_M}
theorem tK0 {st : Nat} : tK T L st = 0 ↔ L ≤ st := by
  unfold tK
  constructor
  · intro h
    by_cases c : L ≤ st
    · exact c
    · rw [if_neg c] at h
      split at h
      · cases h
      · split at h
        · cases h
        · split at h
          · cases h
          · cases h
  · intro h; rw [if_pos h]
theorem z_h125 (h : mZ t) (n : Nat) : f_X12_parseSchool_h125 (n + 1) t = some (-1, t) := by
  rw [f_X12_parseSchool_h125, z_isWord h w_lesson2, Option.bind_some, if_pos rfl, if_neg (z_ne h), if_neg (z_le h)]
theorem nU_n6 (h : dWN6 N) (h40 : N 6 < 40) : dWN6 (nU N 6 (N 6 + 1)) := by
  obtain ⟨n0, n1, n2, n3, n4, n5, n6⟩ := h
  exact ⟨n0, n1, n2, n3, n4, n5, show N 6 + 1 ≤ 40 by omega⟩
theorem l_loopL (hT : tOk T L) : ∀ (m k n1 n2 st : Nat) (N : Nat → Nat) (Q : Nat → Nat → Int32) (s t : ga_M), k + m = 40 → k = N 6 → m + 1 < n1 → m + 1 < n2 → dWN6 N → dWQ N Q → pOk T L st N Q s t →
    (∃ st2 N2 Q2 s2 t2, f_X8_readLessons_h2 n1 (nI k) s = some (1, s2) ∧ f_X12_parseSchool_h125 n2 t = f_X12_parseSchool_h176 ga_fuel 0 t2 ∧ pOk T L st2 N2 Q2 s2 t2 ∧ pFc s s2 ∧ pFm t t2 ∧ dWN6 N2 ∧ dWQ N2 Q2) ∨
    ∃ s2 t2, f_X8_readLessons_h2 n1 (nI k) s = some (0, s2) ∧ f_X12_parseSchool_h125 n2 t = some (-1, t2) ∧ tBad s2 t2 ∧ pFc s s2 ∧ pFm t t2 := by
  have fin : ∀ (st : Nat) (N : Nat → Nat) (Q : Nat → Nat → Int32) (s t : ga_M), dWN6 N → dWQ N Q → pOk T L st N Q s t →
      (∃ st2 N2 Q2 s2 t2, (if (s 45 2) = 0 then some ((1 : Int32), s) else if (v_X8_fail 1 s).1 = 0 then some (0, (v_X8_fail 1 s).2) else some (1, (v_X8_fail 1 s).2)) = some (1, s2) ∧
        (if (t 72 16) = 0 then (if (t 72 15) ≤ (t 72 13) then (if (t 72 16) ≤ 0 then f_X12_parseSchool_h176 ga_fuel 0 t else some ((-1), t)) else (if ((v_X12_wrong 1 t) 72 16) ≤ 0 then f_X12_parseSchool_h176 ga_fuel 0 (v_X12_wrong 1 t) else some ((-1), (v_X12_wrong 1 t)))) else (if (t 72 16) ≤ 0 then f_X12_parseSchool_h176 ga_fuel 0 t else some ((-1), t))) = f_X12_parseSchool_h176 ga_fuel 0 t2 ∧ pOk T L st2 N2 Q2 s2 t2 ∧ pFc s s2 ∧ pFm t t2 ∧ dWN6 N2 ∧ dWQ N2 Q2) ∨
      ∃ s2 t2, (if (s 45 2) = 0 then some ((1 : Int32), s) else if (v_X8_fail 1 s).1 = 0 then some (0, (v_X8_fail 1 s).2) else some (1, (v_X8_fail 1 s).2)) = some (0, s2) ∧
        (if (t 72 16) = 0 then (if (t 72 15) ≤ (t 72 13) then (if (t 72 16) ≤ 0 then f_X12_parseSchool_h176 ga_fuel 0 t else some ((-1), t)) else (if ((v_X12_wrong 1 t) 72 16) ≤ 0 then f_X12_parseSchool_h176 ga_fuel 0 (v_X12_wrong 1 t) else some ((-1), (v_X12_wrong 1 t)))) else (if (t 72 16) ≤ 0 then f_X12_parseSchool_h176 ga_fuel 0 t else some ((-1), t))) = some (-1, t2) ∧ tBad s2 t2 ∧ pFc s s2 ∧ pFm t t2 := by
    intro st N Q s t hN hQ h
    have hL := hT.1
    have hst := h.1.1.2.1
    have h5 := tK_lt T L st
    rw [h.1.1.2.2.1, if_pos h.1.2.2.2.2.1, h.1.2.1.1.1, h.1.2.1.2.2.1, h.1.2.2.2.2.1]
    by_cases c : L ≤ st
    · rw [if_pos (show nI (tK T L st) = 0 by rw [tK0.mpr c]; rfl), if_pos (nI_le c (by omega)), if_pos (show (0 : Int32) ≤ 0 by decide)]
      exact Or.inl ⟨st, N, Q, s, t, rfl, rfl, h, pFc_refl s, pFm_refl t, hN, hQ⟩
    · obtain ⟨s2, t2, g1, g2, g3, g4, g5⟩ := p_fail h (k := 1) (by omega) (by omega)
      have c2 : tK T L st ≠ 0 := fun q => c (tK0.mp q)
      rw [if_neg (show ¬ nI (tK T L st) = 0 from nI_ne0 (by omega) (by omega)), if_neg (nI_ge (by omega) (by omega)), show v_X8_fail 1 s = (0, s2) from g1, show v_X12_wrong 1 t = t2 from g2, if_neg (z_le g3.2.2), if_pos rfl]
      exact Or.inr ⟨s2, t2, rfl, rfl, g3, g4, g5⟩
  intro m
  induction m with
  | zero =>
    intro k n1 n2 st N Q s t hk hkN hn1 hn2 hN hQ h
    obtain ⟨n1, rfl⟩ : ∃ j, n1 = j + 1 := ⟨n1 - 1, by omega⟩
    obtain ⟨n2, rfl⟩ : ∃ j, n2 = j + 1 + 1 := ⟨n2 - 2, by omega⟩
    have : k = 40 := by omega
    subst this
    rw [f_X8_readLessons_h2, f_X12_parseSchool_h125]
    dsimp only
    rw [if_neg (by decide), c_isWord hT h.1.1 w_lesson rfl, m_isWord hT h.1.2.1 h.1.2.2.2.2.1 w_lesson2, Option.bind_some, Option.bind_some]
    cases c : tW T L st [108, 101, 115, 115, 111, 110]
    · rw [if_pos (show aB false = 0 from rfl), if_pos (show aB false = 0 from rfl)]
      exact fin st N Q s t hN hQ h
    · rw [if_neg (show ¬ aB true = 0 by decide), if_neg (show ¬ aB true = 0 by decide), if_pos (show nI 40 = 40 from rfl)]
      obtain ⟨s2, t2, g1, g2, g3, g4, g5⟩ := p_fail h (k := 5) (by omega) (by omega)
      rw [show v_X8_fail 5 s = (0, s2) from g1, fe_X12_readLesson]
      unfold fb_X12_readLesson
      dsimp only
      rw [h.2.2.1 6 (by omega), ← hkN, if_pos (show nI 40 = 40 from rfl), show v_X12_wrong 5 t = t2 from g2, z_j19 (by omega) g3.2.2 (show dM2 74 N Q t2 from ?_), Option.bind_some, z_h125 g3.2.2]
      · exact Or.inr ⟨s2, t2, rfl, rfl, g3, g4, g5⟩
      · obtain ⟨s3, t3, k1, k2, k3, k4, k5⟩ := l_fail h.1 (k := 5) (by omega) (by omega)
        rw [← g2, show v_X12_wrong (nI 5) t = t3 from k2]
        exact dM2_m k5 h.2.2
  | succ m ih =>
    intro k n1 n2 st N Q s t hk hkN hn1 hn2 hN hQ h
    obtain ⟨n1, rfl⟩ : ∃ j, n1 = j + 1 := ⟨n1 - 1, by omega⟩
    obtain ⟨n2, rfl⟩ : ∃ j, n2 = j + 1 := ⟨n2 - 1, by omega⟩
    rw [f_X8_readLessons_h2, f_X12_parseSchool_h125]
    dsimp only
    rw [if_neg (show ¬ (40 : Int32) < nI k from nI_nlt (a := 40) (by omega) (by omega)), c_isWord hT h.1.1 w_lesson rfl, m_isWord hT h.1.2.1 h.1.2.2.2.2.1 w_lesson2, Option.bind_some, Option.bind_some]
    cases c : tW T L st [108, 101, 115, 115, 111, 110]
    · rw [if_pos (show aB false = 0 from rfl), if_pos (show aB false = 0 from rfl)]
      exact fin st N Q s t hN hQ h
    · have e40 : ¬ nI k = 40 := fun e => by
        have := (nI_eq (b := 40) (show k < 2 ^ 31 by omega) (by omega)).mp e
        omega
      rw [if_neg (show ¬ aB true = 0 by decide), if_neg (show ¬ aB true = 0 by decide), if_neg e40, fe_X12_readLesson, d_p1]
      unfold fb_X12_readLesson
      dsimp only
      rw [h.2.2.1 6 (by omega), ← hkN, if_neg e40]
      obtain ⟨s1, a1, hl⟩ := l_lesson hT hN hQ (by omega) h
      rw [← hkN] at hl
      rw [a1, Option.bind_some]
      rcases hl with ⟨st2, s2, t2, N2, Q2, g1, g2, g3, g4, g5, rfl, g7⟩ | ⟨s2, t2, g1, g2, g3, g4, g5⟩
      · rw [g1, g2, Option.bind_some, Option.bind_some]
        dsimp only
        rw [if_neg (show ¬ (1 : Int32) = 0 by decide)]
        rw [hkN] at g3 g7
        rcases ih (k + 1) n1 n2 st2 _ _ s2 t2 (by omega) (by rw [nU_eq]; omega) (by omega) (by omega) (nU_n6 hN (by omega)) g7 g3 with ⟨st3, N3, Q3, s3, t3, k1, k2, k3, k4, k5, k6⟩ | ⟨s3, t3, k1, k2, k3, k4, k5⟩
        · exact Or.inl ⟨st3, N3, Q3, s3, t3, k1, k2, k3, pFc_trans g4 k4, pFm_trans g5 k5, k6⟩
        · exact Or.inr ⟨s3, t3, k1, k2, k3, pFc_trans g4 k4, pFm_trans g5 k5⟩
      · rw [g1, g2, Option.bind_some, Option.bind_some]
        dsimp only
        obtain ⟨n2, rfl⟩ : ∃ j, n2 = j + 1 := ⟨n2 - 1, by omega⟩
        rw [if_pos rfl, z_h125 g3.2.2]
        exact Or.inr ⟨s2, t2, rfl, rfl, g3, g4, g5⟩
end D51
