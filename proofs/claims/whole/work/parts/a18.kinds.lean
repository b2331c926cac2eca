section D48
/-! ===== subjects, rooms ===== -/
variable {T : Nat → Nat} {L : Nat} {N : Nat → Nat} {Q : Nat → Nat → Int32} {s t : ga_M}
theorem p_opens {st i m : Nat} (hi : i < 7) (hm : m < 100) (hni : N i < 100) (h : pOk T L st N Q s t) (hT : tOk T L) :
    (N i ≠ m ∧ ∃ s2 t2, f_X10_next s = some s2 ∧ f_X12_opensThing (nI i) (nI m) t = some (1, t2) ∧ pOk T L (tX T L st) N Q s2 t2 ∧ pFc s s2 ∧ pFm t t2) ∨
    (N i = m ∧ ∃ s2 t2, v_X8_fail 5 s = (0, s2) ∧ f_X12_opensThing (nI i) (nI m) t = some (0, t2) ∧ tBad s2 t2 ∧ pFc s s2 ∧ pFm t t2) := by
  rw [fe_X12_opensThing]; unfold fb_X12_opensThing
  rw [if_neg (nI_in (c := i) (N := 235) (by omega) (by omega)), d_cl (show i < 2147483648 by omega), h.2.2.1 i hi]
  by_cases c : N i = m
  · right
    obtain ⟨s2, t2, g1, g2, g3, g4, g5⟩ := p_fail h (k := 5) (by omega) (by omega)
    rw [if_pos (by rw [c]), show v_X12_wrong 5 t = t2 from g2]
    dsimp only
    rw [z_goOn g3.2.2, Option.bind_some, if_neg (z_ne g3.2.2)]
    exact ⟨c, s2, t2, g1, rfl, g3, g4, g5⟩
  · left
    obtain ⟨s2, t2, g1, _, g2, g3, g4, g5⟩ := p_go hT h
    rw [if_neg (fun e => c ((nI_eq (by omega) (by omega)).mp e)), g2, Option.bind_some, if_pos g3.1.2.2.2.2.1]
    exact ⟨c, s2, t2, g1, rfl, g3, g4, g5⟩
theorem dBd_u {i v : Nat} (hB : dBd N) (h : v ≤ (if i = 2 then 6 else if i = 3 then 8 else if i = 4 then 6 else 40)) : dBd (nU N i v) := by
  obtain ⟨h2, h3, h4, h6⟩ := hB
  unfold dBd nU
  refine ⟨?_, ?_, ?_, ?_⟩
  · by_cases e : i = 2
    · subst e; simpa using h
    · rw [if_neg (fun q => e q.symm)]; exact h2
  · by_cases e : i = 3
    · subst e; simpa using h
    · rw [if_neg (fun q => e q.symm)]; exact h3
  · by_cases e : i = 4
    · subst e; simpa using h
    · rw [if_neg (fun q => e q.symm)]; exact h4
  · by_cases e : i = 6
    · subst e; simpa using h
    · rw [if_neg (fun q => e q.symm)]; exact h6
noncomputable def cBodySubjects (K : ga_M → Option (Int32 × ga_M)) (s : ga_M) : Option (Int32 × ga_M) :=
  (f_X8_takeWord 1001 s).bind fun q101 => if q101.1 = 0 then some (0, q101.2) else if (v_X8_checkNumber 0 3 q101.2).1 = 0 then some (0, (v_X8_checkNumber 0 3 q101.2).2) else
    (f_X8_takeNumber (v_X8_checkNumber 0 3 q101.2).2).bind fun q103 => (f_X8_takeSemicolon (v_X7_addSubject_49 q103.1 q103.2)).bind fun q105 => if q105.1 = 0 then some (0, q105.2) else K q105.2
theorem l_bodySubjects (hT : tOk T L) (hB : dBd N) {st : Nat} (hNi : N 2 < 6) (h : pOk T L st N Q s t) (hw : tW T L st [115, 117, 98, 106, 101, 99, 116] = true) (K : ga_M → Option (Int32 × ga_M)) (n : Nat) :
    (∃ st2 s2 t2 v, cBodySubjects K s = K s2 ∧ f_X12_readKinds_h13 (n + 1) 1040 2 6 7 t = f_X12_readKinds_h13 n 1040 2 6 7 t2 ∧ pOk T L st2 (nU N 2 (N 2 + 1)) (pS Q 1 (N 2) v) s2 t2 ∧ pFc s s2 ∧ pFm t t2) ∨
    ∃ s2 t2, cBodySubjects K s = some (0, s2) ∧ f_X12_readKinds_h13 (n + 1) 1040 2 6 7 t = some t2 ∧ tBad s2 t2 ∧ pFc s s2 ∧ pFm t t2 := by
  unfold cBodySubjects
  rw [f_X12_readKinds_h13, fe_X8_takeWord]
  unfold fb_X8_takeWord
  dsimp only
  rw [c_isWord hT h.1.1 w_subject rfl, m_isWord hT h.1.2.1 h.1.2.2.2.2.1 w_subject2, hw, Option.bind_some, Option.bind_some, if_neg (show ¬ aB true = 0 by decide), if_neg (show ¬ aB true = 0 by decide)]
  rcases p_opens (i := 2) (m := 6) (by omega) (by omega) (by omega) h hT with ⟨_, s1, t1, a1, a2, a3, a4, a5⟩ | ⟨e, _⟩
  · rw [a1, show f_X12_opensThing 2 6 t = some (1, t1) from a2, Option.bind_some, Option.bind_some, Option.bind_some]
    dsimp only
    rw [if_neg (show ¬ (1 : Int32) = 0 by decide), if_neg (show ¬ (1 : Int32) = 0 by decide)]
    rcases p_number hT (lo := 0) (hi := 3) (by omega) (by omega) a3 with ⟨v, _, _, b1, s2, t2, b2, b3, b4, b5, b6⟩ | ⟨s2, t2, b1, b2, b3, b4, b5⟩
    · rw [show v_X8_checkNumber 0 3 s1 = (1, s1) from b1, show f_X12_number 0 3 t1 = some (nI v, t2) from b3]
      dsimp only
      rw [if_neg (show ¬ (1 : Int32) = 0 by decide), b2, Option.bind_some, Option.bind_some]
      dsimp only
      obtain ⟨k1, k2⟩ := c_addSubject hNi b4.2.1 (nI v)
      have b4' : tOkay T L (tX T L (tX T L st)) (v_X7_addSubject_49 (nI v) s2) t2 := tOkay_c (k2 45 (by decide) (by decide)) (k2 47 (by decide) (by decide)) rfl rfl b4.1
      have f1 : pFc s2 (v_X7_addSubject_49 (nI v) s2) := fun c _ hc => k2 c (by omega) (by omega)
      rcases l_semi hT b4' with ⟨s3, t3, c1, c2, c3, c4, c5⟩ | ⟨s3, t3, c1, c2, c3, c4, c5⟩
      · left
        rw [c1, c2, Option.bind_some, Option.bind_some]
        dsimp only
        have hM3 := dM2_m c5 b4.2.2
        rw [if_neg (show ¬ (1 : Int32) = 0 by decide), c3.2.2.2.2.1, if_pos (show (0 : Int32) ≤ 0 by decide)]
        have hr := dM2_row (i := 1) (k := N 2) hB (by omega) (by omega) (by unfold cap; simp; omega) (nI v) hM3
        have hr' : dM2 74 N (pS Q 1 (N 2) (nI v)) (ga_up t3 74 (7 + N 2) (nI v)) := hr
        have hcnt := dM2_cnt (i := 2) (v := N 2 + 1) (by omega) hr' (Or.inr (Or.inl ⟨rfl, fun x hx hx9 hg => by
          have := gov_1 x (by omega) hx hg
          subst this
          show ga_up t3 74 (7 + N 2) (nI v) 74 (7 + N 2) = _
          rw [d_up_eq, pS_eq]⟩))
        refine ⟨_, s3, ga_up (ga_up t3 74 (7 + N 2) (nI v)) 74 2 (nI (N 2 + 1)), nI v, rfl, ?_, ⟨tOkay_c rfl rfl (by rw [d_up_ne (by decide), d_up_ne (by decide)]) (by rw [d_up_ne (by decide), d_up_ne (by decide)]) c3, dC2_t c4 k1, hcnt⟩, pFc_trans a4 (pFc_trans b5 (pFc_trans f1 (pFc_t c4))), pFm_trans a5 (pFm_trans b6 (pFm_trans (pFm_m c5) (pFm_trans (pFm_up _ _ _) (pFm_up _ _ _))))⟩
        have hi2 : ¬ ((2 : Int32) < 0 ∨ 235 ≤ (2 : Int32).toNatClampNeg) := nI_in (c := 2) (N := 235) (by omega) (by omega)
        have hcl : (2 : Int32).toNatClampNeg = 2 := rfl
        rw [if_neg hi2, hcl, hM3.1 2 (by omega), d_a7, if_neg (nI_in (c := 7 + N 2) (N := 235) (by omega) (by omega)), d_cl (show 7 + N 2 < 2147483648 by omega), if_neg (show ¬ ((2 : Int32) < 0 ∨ 235 ≤ 2) by decide), if_neg (show ¬ ((2 : Int32) < 0 ∨ 235 ≤ 2) by decide), hr'.1 2 (by omega), d_p1]
      · right
        rw [c1, c2, Option.bind_some, Option.bind_some]
        dsimp only
        rw [if_pos rfl, if_neg (z_le c3.2.2)]
        exact ⟨s3, t3, rfl, rfl, c3, pFc_trans a4 (pFc_trans b5 (pFc_trans f1 (pFc_t c4))), pFm_trans a5 (pFm_trans b6 (pFm_m c5))⟩
    · right
      rw [show v_X8_checkNumber 0 3 s1 = (0, s2) from b1, show f_X12_number 0 3 t1 = some (0, t2) from b2]
      dsimp only
      rw [if_pos rfl, Option.bind_some]
      dsimp only
      rw [z_must b3.2.2 w_semi, Option.bind_some, if_neg (z_le b3.2.2)]
      exact ⟨s2, t2, rfl, rfl, b3, pFc_trans a4 b4, pFm_trans a5 b5⟩
  · omega
theorem l_loopSubjects (hT : tOk T L) : ∀ (m k n1 n2 st : Nat) (N : Nat → Nat) (Q : Nat → Nat → Int32) (s t : ga_M), k + m = 6 → 1 ≤ k → k = N 2 → m < n1 → m < n2 → dBd N → pOk T L st N Q s t →
    pR T L s t (f_X8_readSubjects_h2 n1 (nI k) s) (f_X12_readKinds_h13 n2 1040 2 6 7 t) (fun N2 Q2 => (∀ j, j ≠ 2 → N2 j = N j) ∧ (1 ≤ N2 2 ∧ N2 2 ≤ 6) ∧ ∀ b, b ≠ 1 → Q2 b = Q b) := by
  intro m
  induction m with
  | zero =>
    intro k n1 n2 st N Q s t hk h1 hkN hn1 hn2 hB h
    obtain ⟨n1, rfl⟩ : ∃ j, n1 = j + 1 := ⟨n1 - 1, by omega⟩
    obtain ⟨n2, rfl⟩ : ∃ j, n2 = j + 1 := ⟨n2 - 1, by omega⟩
    have : k = 6 := by omega
    subst this
    rw [f_X8_readSubjects_h2, f_X12_readKinds_h13]
    dsimp only
    rw [if_neg (by decide), if_neg (by decide), c_isWord hT h.1.1 w_subject rfl, m_isWord hT h.1.2.1 h.1.2.2.2.2.1 w_subject2, Option.bind_some, Option.bind_some]
    cases c : tW T L st [115, 117, 98, 106, 101, 99, 116]
    · rw [if_pos (show aB false = 0 from rfl), if_pos (show aB false = 0 from rfl)]
      exact Or.inl ⟨st, N, Q, s, t, rfl, rfl, h, pFc_refl s, pFm_refl t, fun _ _ => rfl, ⟨by omega, by omega⟩, fun _ _ => rfl⟩
    · rw [if_neg (show ¬ aB true = 0 by decide), if_neg (show ¬ aB true = 0 by decide), if_pos (show nI 6 = 6 from rfl)]
      rcases p_opens (i := 2) (m := 6) (by omega) (by omega) (by omega) h hT with ⟨e, _⟩ | ⟨_, s2, t2, g1, g2, g3, g4, g5⟩
      · omega
      · rw [g1, show f_X12_opensThing 2 6 t = some (0, t2) from g2, Option.bind_some]
        dsimp only
        rw [if_pos rfl]
        exact Or.inr ⟨s2, t2, rfl, rfl, g3, g4, g5⟩
  | succ m ih =>
    intro k n1 n2 st N Q s t hk h1 hkN hn1 hn2 hB h
    obtain ⟨n1, rfl⟩ : ∃ j, n1 = j + 1 := ⟨n1 - 1, by omega⟩
    obtain ⟨n2, rfl⟩ : ∃ j, n2 = j + 1 := ⟨n2 - 1, by omega⟩
    have hstep : f_X8_readSubjects_h2 (n1 + 1) (nI k) s = (f_X10_isWord 1001 s).bind fun x108 => if x108 = 0 then some (1, s) else cBodySubjects (fun s => f_X8_readSubjects_h2 n1 (nI (k + 1)) s) s := by
      rw [f_X8_readSubjects_h2]
      dsimp only
      have e6 : ¬ nI k = 6 := fun e => by
        have := (nI_eq (b := 6) (show k < 2 ^ 31 by omega) (by omega)).mp e
        omega
      rw [if_neg (show ¬ (6 : Int32) < nI k from nI_nlt (a := 6) (by omega) (by omega)), if_neg (nI_ne0 (by omega) (by omega)), if_neg e6, d_p1]
      rfl
    rw [hstep, c_isWord hT h.1.1 w_subject rfl, Option.bind_some]
    cases c : tW T L st [115, 117, 98, 106, 101, 99, 116]
    · rw [if_pos (show aB false = 0 from rfl), f_X12_readKinds_h13, m_isWord hT h.1.2.1 h.1.2.2.2.2.1 w_subject2, c, Option.bind_some, if_pos (show aB false = 0 from rfl)]
      exact Or.inl ⟨st, N, Q, s, t, rfl, rfl, h, pFc_refl s, pFm_refl t, fun _ _ => rfl, ⟨by omega, by omega⟩, fun _ _ => rfl⟩
    · rw [if_neg (show ¬ aB true = 0 by decide)]
      rcases l_bodySubjects hT hB (by omega) h c (fun s => f_X8_readSubjects_h2 n1 (nI (k + 1)) s) n2 with ⟨st2, s2, t2, v, g1, g2, g3, g4, g5⟩ | ⟨s2, t2, g1, g2, g3, g4, g5⟩
      · rw [g1, g2]
        rcases ih (k + 1) n1 n2 st2 _ _ s2 t2 (by omega) (by omega) (by rw [nU_eq]; omega) (by omega) (by omega) (dBd_u hB (by simp; omega)) g3 with ⟨st3, N3, Q3, s3, t3, k1, k2, k3, k4, k5, k6, k7, k8⟩ | ⟨s3, t3, k1, k2, k3, k4, k5⟩
        · exact Or.inl ⟨st3, N3, Q3, s3, t3, k1, k2, k3, pFc_trans g4 k4, pFm_trans g5 k5, fun j hj => by rw [k6 j hj, nU_ne hj], k7, fun b hb => by rw [k8 b hb]; funext x; exact pS_ne (by omega)⟩
        · exact Or.inr ⟨s3, t3, k1, k2, k3, pFc_trans g4 k4, pFm_trans g5 k5⟩
      · rw [g1, g2]
        exact Or.inr ⟨s2, t2, rfl, rfl, g3, g4, g5⟩
theorem l_Subjects (hT : tOk T L) {st : Nat} (hB : dBd N) (hNi : N 2 = 0) (h : pOk T L st N Q s t) :
    pR T L s t (f_X8_readSubjects s) (f_X12_readKinds 1040 2 6 7 t) (fun N2 Q2 => (∀ j, j ≠ 2 → N2 j = N j) ∧ (1 ≤ N2 2 ∧ N2 2 ≤ 6) ∧ ∀ b, b ≠ 1 → Q2 b = Q b) := by
  rw [fe_X8_readSubjects, fe_X12_readKinds]
  unfold fb_X8_readSubjects fb_X12_readKinds
  rw [m_isWord hT h.1.2.1 h.1.2.2.2.2.1 w_subject2, Option.bind_some]
  obtain ⟨n, hn⟩ : ∃ n, ga_fuel = n + 1 := ⟨ga_fuel - 1, by have := d_fuel (n := 20) (by omega); omega⟩
  have hn7 : 7 < n := by have := d_fuel (n := 20) (by omega); omega
  have hstep : f_X8_readSubjects_h2 ga_fuel 0 s = cBodySubjects (fun s => f_X8_readSubjects_h2 n (nI 1) s) s := by
    rw [hn, f_X8_readSubjects_h2]
    dsimp only
    rw [if_neg (by decide), if_pos rfl, if_neg (by decide)]
    rfl
  rw [hstep]
  cases c : tW T L st [115, 117, 98, 106, 101, 99, 116]
  · rw [if_pos (show aB false = 0 from rfl)]
    obtain ⟨s2, t2, g1, g2, g3, g4, g5⟩ := p_fail h (k := 1) (by omega) (by omega)
    unfold cBodySubjects
    rw [fe_X8_takeWord]
    unfold fb_X8_takeWord
    rw [c_isWord hT h.1.1 w_subject rfl, c, Option.bind_some, if_pos (show aB false = 0 from rfl)]
    dsimp only
    rw [show v_X8_fail 1 s = (0, s2) from g1, Option.bind_some]
    dsimp only
    rw [if_pos rfl, show v_X12_wrong 1 t = t2 from g2, hn, f_X12_readKinds_h13, z_isWord g3.2.2 w_subject2, Option.bind_some, if_pos rfl]
    exact Or.inr ⟨s2, t2, rfl, rfl, g3, g4, g5⟩
  · rw [if_neg (show ¬ aB true = 0 by decide)]
    have hb := l_bodySubjects hT hB (by omega) h c (fun s => f_X8_readSubjects_h2 n (nI 1) s) n
    rw [← hn] at hb
    rcases hb with ⟨st2, s2, t2, v, g1, g2, g3, g4, g5⟩ | ⟨s2, t2, g1, g2, g3, g4, g5⟩
    · rw [g1, g2]
      rcases l_loopSubjects hT 5 1 n n st2 _ _ s2 t2 (by omega) (by omega) (by rw [nU_eq]; omega) (by omega) (by omega) (dBd_u hB (by simp; omega)) g3 with ⟨st3, N3, Q3, s3, t3, k1, k2, k3, k4, k5, k6, k7, k8⟩ | ⟨s3, t3, k1, k2, k3, k4, k5⟩
      · exact Or.inl ⟨st3, N3, Q3, s3, t3, k1, k2, k3, pFc_trans g4 k4, pFm_trans g5 k5, fun j hj => by rw [k6 j hj, nU_ne hj], k7, fun b hb => by rw [k8 b hb]; funext x; exact pS_ne (by omega)⟩
      · exact Or.inr ⟨s3, t3, k1, k2, k3, pFc_trans g4 k4, pFm_trans g5 k5⟩
    · rw [g1, g2]
      exact Or.inr ⟨s2, t2, rfl, rfl, g3, g4, g5⟩
noncomputable def cBodyRooms (K : ga_M → Option (Int32 × ga_M)) (s : ga_M) : Option (Int32 × ga_M) :=
  (f_X8_takeWord 1003 s).bind fun q101 => if q101.1 = 0 then some (0, q101.2) else if (v_X8_checkNumber 0 3 q101.2).1 = 0 then some (0, (v_X8_checkNumber 0 3 q101.2).2) else
    (f_X8_takeNumber (v_X8_checkNumber 0 3 q101.2).2).bind fun q103 => (f_X8_takeSemicolon (v_X7_addRoom_49 q103.1 q103.2)).bind fun q105 => if q105.1 = 0 then some (0, q105.2) else K q105.2
theorem l_bodyRooms (hT : tOk T L) (hB : dBd N) {st : Nat} (hNi : N 4 < 6) (h : pOk T L st N Q s t) (hw : tW T L st [114, 111, 111, 109] = true) (K : ga_M → Option (Int32 × ga_M)) (n : Nat) :
    (∃ st2 s2 t2 v, cBodyRooms K s = K s2 ∧ f_X12_readKinds_h13 (n + 1) 1042 4 6 29 t = f_X12_readKinds_h13 n 1042 4 6 29 t2 ∧ pOk T L st2 (nU N 4 (N 4 + 1)) (pS Q 4 (N 4) v) s2 t2 ∧ pFc s s2 ∧ pFm t t2) ∨
    ∃ s2 t2, cBodyRooms K s = some (0, s2) ∧ f_X12_readKinds_h13 (n + 1) 1042 4 6 29 t = some t2 ∧ tBad s2 t2 ∧ pFc s s2 ∧ pFm t t2 := by
  unfold cBodyRooms
  rw [f_X12_readKinds_h13, fe_X8_takeWord]
  unfold fb_X8_takeWord
  dsimp only
  rw [c_isWord hT h.1.1 w_room rfl, m_isWord hT h.1.2.1 h.1.2.2.2.2.1 w_room2, hw, Option.bind_some, Option.bind_some, if_neg (show ¬ aB true = 0 by decide), if_neg (show ¬ aB true = 0 by decide)]
  rcases p_opens (i := 4) (m := 6) (by omega) (by omega) (by omega) h hT with ⟨_, s1, t1, a1, a2, a3, a4, a5⟩ | ⟨e, _⟩
  · rw [a1, show f_X12_opensThing 4 6 t = some (1, t1) from a2, Option.bind_some, Option.bind_some, Option.bind_some]
    dsimp only
    rw [if_neg (show ¬ (1 : Int32) = 0 by decide), if_neg (show ¬ (1 : Int32) = 0 by decide)]
    rcases p_number hT (lo := 0) (hi := 3) (by omega) (by omega) a3 with ⟨v, _, _, b1, s2, t2, b2, b3, b4, b5, b6⟩ | ⟨s2, t2, b1, b2, b3, b4, b5⟩
    · rw [show v_X8_checkNumber 0 3 s1 = (1, s1) from b1, show f_X12_number 0 3 t1 = some (nI v, t2) from b3]
      dsimp only
      rw [if_neg (show ¬ (1 : Int32) = 0 by decide), b2, Option.bind_some, Option.bind_some]
      dsimp only
      obtain ⟨k1, k2⟩ := c_addRoom hNi b4.2.1 (nI v)
      have b4' : tOkay T L (tX T L (tX T L st)) (v_X7_addRoom_49 (nI v) s2) t2 := tOkay_c (k2 45 (by decide) (by decide)) (k2 47 (by decide) (by decide)) rfl rfl b4.1
      have f1 : pFc s2 (v_X7_addRoom_49 (nI v) s2) := fun c _ hc => k2 c (by omega) (by omega)
      rcases l_semi hT b4' with ⟨s3, t3, c1, c2, c3, c4, c5⟩ | ⟨s3, t3, c1, c2, c3, c4, c5⟩
      · left
        rw [c1, c2, Option.bind_some, Option.bind_some]
        dsimp only
        have hM3 := dM2_m c5 b4.2.2
        rw [if_neg (show ¬ (1 : Int32) = 0 by decide), c3.2.2.2.2.1, if_pos (show (0 : Int32) ≤ 0 by decide)]
        have hr := dM2_row (i := 4) (k := N 4) hB (by omega) (by omega) (by unfold cap; simp; omega) (nI v) hM3
        have hr' : dM2 74 N (pS Q 4 (N 4) (nI v)) (ga_up t3 74 (29 + N 4) (nI v)) := hr
        have hcnt := dM2_cnt (i := 4) (v := N 4 + 1) (by omega) hr' (Or.inr (Or.inl ⟨rfl, fun x hx hx9 hg => by
          have := gov_4 x (by omega) hx hg
          subst this
          show ga_up t3 74 (29 + N 4) (nI v) 74 (29 + N 4) = _
          rw [d_up_eq, pS_eq]⟩))
        refine ⟨_, s3, ga_up (ga_up t3 74 (29 + N 4) (nI v)) 74 4 (nI (N 4 + 1)), nI v, rfl, ?_, ⟨tOkay_c rfl rfl (by rw [d_up_ne (by decide), d_up_ne (by decide)]) (by rw [d_up_ne (by decide), d_up_ne (by decide)]) c3, dC2_t c4 k1, hcnt⟩, pFc_trans a4 (pFc_trans b5 (pFc_trans f1 (pFc_t c4))), pFm_trans a5 (pFm_trans b6 (pFm_trans (pFm_m c5) (pFm_trans (pFm_up _ _ _) (pFm_up _ _ _))))⟩
        have hi2 : ¬ ((4 : Int32) < 0 ∨ 235 ≤ (4 : Int32).toNatClampNeg) := nI_in (c := 4) (N := 235) (by omega) (by omega)
        have hcl : (4 : Int32).toNatClampNeg = 4 := rfl
        rw [if_neg hi2, hcl, hM3.1 4 (by omega), d_a29, if_neg (nI_in (c := 29 + N 4) (N := 235) (by omega) (by omega)), d_cl (show 29 + N 4 < 2147483648 by omega), if_neg (show ¬ ((4 : Int32) < 0 ∨ 235 ≤ 4) by decide), if_neg (show ¬ ((4 : Int32) < 0 ∨ 235 ≤ 4) by decide), hr'.1 4 (by omega), d_p1]
      · right
        rw [c1, c2, Option.bind_some, Option.bind_some]
        dsimp only
        rw [if_pos rfl, if_neg (z_le c3.2.2)]
        exact ⟨s3, t3, rfl, rfl, c3, pFc_trans a4 (pFc_trans b5 (pFc_trans f1 (pFc_t c4))), pFm_trans a5 (pFm_trans b6 (pFm_m c5))⟩
    · right
      rw [show v_X8_checkNumber 0 3 s1 = (0, s2) from b1, show f_X12_number 0 3 t1 = some (0, t2) from b2]
      dsimp only
      rw [if_pos rfl, Option.bind_some]
      dsimp only
      rw [z_must b3.2.2 w_semi, Option.bind_some, if_neg (z_le b3.2.2)]
      exact ⟨s2, t2, rfl, rfl, b3, pFc_trans a4 b4, pFm_trans a5 b5⟩
  · omega
theorem l_loopRooms (hT : tOk T L) : ∀ (m k n1 n2 st : Nat) (N : Nat → Nat) (Q : Nat → Nat → Int32) (s t : ga_M), k + m = 6 → 1 ≤ k → k = N 4 → m < n1 → m < n2 → dBd N → pOk T L st N Q s t →
    pR T L s t (f_X8_readRooms_h2 n1 (nI k) s) (f_X12_readKinds_h13 n2 1042 4 6 29 t) (fun N2 Q2 => (∀ j, j ≠ 4 → N2 j = N j) ∧ (1 ≤ N2 4 ∧ N2 4 ≤ 6) ∧ ∀ b, b ≠ 4 → Q2 b = Q b) := by
  intro m
  induction m with
  | zero =>
    intro k n1 n2 st N Q s t hk h1 hkN hn1 hn2 hB h
    obtain ⟨n1, rfl⟩ : ∃ j, n1 = j + 1 := ⟨n1 - 1, by omega⟩
    obtain ⟨n2, rfl⟩ : ∃ j, n2 = j + 1 := ⟨n2 - 1, by omega⟩
    have : k = 6 := by omega
    subst this
    rw [f_X8_readRooms_h2, f_X12_readKinds_h13]
    dsimp only
    rw [if_neg (by decide), if_neg (by decide), c_isWord hT h.1.1 w_room rfl, m_isWord hT h.1.2.1 h.1.2.2.2.2.1 w_room2, Option.bind_some, Option.bind_some]
    cases c : tW T L st [114, 111, 111, 109]
    · rw [if_pos (show aB false = 0 from rfl), if_pos (show aB false = 0 from rfl)]
      exact Or.inl ⟨st, N, Q, s, t, rfl, rfl, h, pFc_refl s, pFm_refl t, fun _ _ => rfl, ⟨by omega, by omega⟩, fun _ _ => rfl⟩
    · rw [if_neg (show ¬ aB true = 0 by decide), if_neg (show ¬ aB true = 0 by decide), if_pos (show nI 6 = 6 from rfl)]
      rcases p_opens (i := 4) (m := 6) (by omega) (by omega) (by omega) h hT with ⟨e, _⟩ | ⟨_, s2, t2, g1, g2, g3, g4, g5⟩
      · omega
      · rw [g1, show f_X12_opensThing 4 6 t = some (0, t2) from g2, Option.bind_some]
        dsimp only
        rw [if_pos rfl]
        exact Or.inr ⟨s2, t2, rfl, rfl, g3, g4, g5⟩
  | succ m ih =>
    intro k n1 n2 st N Q s t hk h1 hkN hn1 hn2 hB h
    obtain ⟨n1, rfl⟩ : ∃ j, n1 = j + 1 := ⟨n1 - 1, by omega⟩
    obtain ⟨n2, rfl⟩ : ∃ j, n2 = j + 1 := ⟨n2 - 1, by omega⟩
    have hstep : f_X8_readRooms_h2 (n1 + 1) (nI k) s = (f_X10_isWord 1003 s).bind fun x108 => if x108 = 0 then some (1, s) else cBodyRooms (fun s => f_X8_readRooms_h2 n1 (nI (k + 1)) s) s := by
      rw [f_X8_readRooms_h2]
      dsimp only
      have e6 : ¬ nI k = 6 := fun e => by
        have := (nI_eq (b := 6) (show k < 2 ^ 31 by omega) (by omega)).mp e
        omega
      rw [if_neg (show ¬ (6 : Int32) < nI k from nI_nlt (a := 6) (by omega) (by omega)), if_neg (nI_ne0 (by omega) (by omega)), if_neg e6, d_p1]
      rfl
    rw [hstep, c_isWord hT h.1.1 w_room rfl, Option.bind_some]
    cases c : tW T L st [114, 111, 111, 109]
    · rw [if_pos (show aB false = 0 from rfl), f_X12_readKinds_h13, m_isWord hT h.1.2.1 h.1.2.2.2.2.1 w_room2, c, Option.bind_some, if_pos (show aB false = 0 from rfl)]
      exact Or.inl ⟨st, N, Q, s, t, rfl, rfl, h, pFc_refl s, pFm_refl t, fun _ _ => rfl, ⟨by omega, by omega⟩, fun _ _ => rfl⟩
    · rw [if_neg (show ¬ aB true = 0 by decide)]
      rcases l_bodyRooms hT hB (by omega) h c (fun s => f_X8_readRooms_h2 n1 (nI (k + 1)) s) n2 with ⟨st2, s2, t2, v, g1, g2, g3, g4, g5⟩ | ⟨s2, t2, g1, g2, g3, g4, g5⟩
      · rw [g1, g2]
        rcases ih (k + 1) n1 n2 st2 _ _ s2 t2 (by omega) (by omega) (by rw [nU_eq]; omega) (by omega) (by omega) (dBd_u hB (by simp; omega)) g3 with ⟨st3, N3, Q3, s3, t3, k1, k2, k3, k4, k5, k6, k7, k8⟩ | ⟨s3, t3, k1, k2, k3, k4, k5⟩
        · exact Or.inl ⟨st3, N3, Q3, s3, t3, k1, k2, k3, pFc_trans g4 k4, pFm_trans g5 k5, fun j hj => by rw [k6 j hj, nU_ne hj], k7, fun b hb => by rw [k8 b hb]; funext x; exact pS_ne (by omega)⟩
        · exact Or.inr ⟨s3, t3, k1, k2, k3, pFc_trans g4 k4, pFm_trans g5 k5⟩
      · rw [g1, g2]
        exact Or.inr ⟨s2, t2, rfl, rfl, g3, g4, g5⟩
theorem l_Rooms (hT : tOk T L) {st : Nat} (hB : dBd N) (hNi : N 4 = 0) (h : pOk T L st N Q s t) :
    pR T L s t (f_X8_readRooms s) (f_X12_readKinds 1042 4 6 29 t) (fun N2 Q2 => (∀ j, j ≠ 4 → N2 j = N j) ∧ (1 ≤ N2 4 ∧ N2 4 ≤ 6) ∧ ∀ b, b ≠ 4 → Q2 b = Q b) := by
  rw [fe_X8_readRooms, fe_X12_readKinds]
  unfold fb_X8_readRooms fb_X12_readKinds
  rw [m_isWord hT h.1.2.1 h.1.2.2.2.2.1 w_room2, Option.bind_some]
  obtain ⟨n, hn⟩ : ∃ n, ga_fuel = n + 1 := ⟨ga_fuel - 1, by have := d_fuel (n := 20) (by omega); omega⟩
  have hn7 : 7 < n := by have := d_fuel (n := 20) (by omega); omega
  have hstep : f_X8_readRooms_h2 ga_fuel 0 s = cBodyRooms (fun s => f_X8_readRooms_h2 n (nI 1) s) s := by
    rw [hn, f_X8_readRooms_h2]
    dsimp only
    rw [if_neg (by decide), if_pos rfl, if_neg (by decide)]
    rfl
  rw [hstep]
  cases c : tW T L st [114, 111, 111, 109]
  · rw [if_pos (show aB false = 0 from rfl)]
    obtain ⟨s2, t2, g1, g2, g3, g4, g5⟩ := p_fail h (k := 1) (by omega) (by omega)
    unfold cBodyRooms
    rw [fe_X8_takeWord]
    unfold fb_X8_takeWord
    rw [c_isWord hT h.1.1 w_room rfl, c, Option.bind_some, if_pos (show aB false = 0 from rfl)]
    dsimp only
    rw [show v_X8_fail 1 s = (0, s2) from g1, Option.bind_some]
    dsimp only
    rw [if_pos rfl, show v_X12_wrong 1 t = t2 from g2, hn, f_X12_readKinds_h13, z_isWord g3.2.2 w_room2, Option.bind_some, if_pos rfl]
    exact Or.inr ⟨s2, t2, rfl, rfl, g3, g4, g5⟩
  · rw [if_neg (show ¬ aB true = 0 by decide)]
    have hb := l_bodyRooms hT hB (by omega) h c (fun s => f_X8_readRooms_h2 n (nI 1) s) n
    rw [← hn] at hb
    rcases hb with ⟨st2, s2, t2, v, g1, g2, g3, g4, g5⟩ | ⟨s2, t2, g1, g2, g3, g4, g5⟩
    · rw [g1, g2]
      rcases l_loopRooms hT 5 1 n n st2 _ _ s2 t2 (by omega) (by omega) (by rw [nU_eq]; omega) (by omega) (by omega) (dBd_u hB (by simp; omega)) g3 with ⟨st3, N3, Q3, s3, t3, k1, k2, k3, k4, k5, k6, k7, k8⟩ | ⟨s3, t3, k1, k2, k3, k4, k5⟩
      · exact Or.inl ⟨st3, N3, Q3, s3, t3, k1, k2, k3, pFc_trans g4 k4, pFm_trans g5 k5, fun j hj => by rw [k6 j hj, nU_ne hj], k7, fun b hb => by rw [k8 b hb]; funext x; exact pS_ne (by omega)⟩
      · exact Or.inr ⟨s3, t3, k1, k2, k3, pFc_trans g4 k4, pFm_trans g5 k5⟩
    · rw [g1, g2]
      exact Or.inr ⟨s2, t2, rfl, rfl, g3, g4, g5⟩
end D48
