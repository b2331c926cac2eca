section D49
/-! ===== teachers ===== -/
variable {T : Nat → Nat} {L : Nat} {N : Nat → Nat} {Q : Nat → Nat → Int32} {s t : ga_M}
theorem nCt_set {p q : Nat → Bool} {v : Nat} (hv : p v = false) (hq : ∀ i, q i = (p i || decide (i = v))) : ∀ m k, nCt q m k = nCt p m k + (if k ≤ v ∧ v < k + m then 1 else 0) := by
  intro m
  induction m with
  | zero => intro k; rw [if_neg (by omega)]; rfl
  | succ m ih =>
    intro k
    unfold nCt
    rw [ih (k + 1), hq k]
    by_cases e : k = v
    · subst e
      rw [hv, decide_eq_true rfl, if_neg (show ¬ (k + 1 ≤ k ∧ k < k + 1 + m) by omega), if_pos (show k ≤ k ∧ k < k + (m + 1) by omega)]
      simp; omega
    · rw [decide_eq_false e, Bool.or_false]
      by_cases c : k ≤ v ∧ v < k + (m + 1)
      · rw [if_pos c, if_pos (show k + 1 ≤ v ∧ v < k + 1 + m by omega)]; omega
      · rw [if_neg c, if_neg (show ¬ (k + 1 ≤ v ∧ v < k + 1 + m) by omega)]; omega
noncomputable def tBody (K : Int32 → ga_M → Option (Int32 × ga_M)) (x : Int32) (s : ga_M) : Option (Int32 × ga_M) :=
  if (v_X8_checkNumber 0 ((s 49 2) - 1) s).1 = 0 then some (0, (v_X8_checkNumber 0 ((s 49 2) - 1) s).2) else
  if (v_X11_hasBit x ((v_X8_checkNumber 0 ((s 49 2) - 1) s).2 45 5) (v_X8_checkNumber 0 ((s 49 2) - 1) s).2) = 0 then
    (f_X8_takeNumber (v_X8_checkNumber 0 ((s 49 2) - 1) s).2).bind fun q104 => K (x ||| (1 <<< (q104.1 &&& 31))) q104.2
  else some ((v_X8_fail 3 (v_X8_checkNumber 0 ((s 49 2) - 1) s).2).1, (v_X8_fail 3 (v_X8_checkNumber 0 ((s 49 2) - 1) s).2).2)
noncomputable def tEnd (a x : Int32) (s : ga_M) : Option (Int32 × ga_M) := (f_X8_takeSemicolon (v_X7_addTeacher_49 a x s)).bind fun q => some (q.1, q.2)
noncomputable def tEndM (go15 : ga_M → Option ga_M) (a x : Int32) (t : ga_M) : Option ga_M :=
  (f_X12_must 1039 t).bind fun s210 => if (s210 72 16) ≤ 0 then
    if (13 + (s210 74 3)) < 0 ∨ 235 ≤ (13 + (s210 74 3)).toNatClampNeg then none else
    if (21 + ((ga_up s210 74 (13 + (s210 74 3)).toNatClampNeg a) 74 3)) < 0 ∨ 235 ≤ (21 + ((ga_up s210 74 (13 + (s210 74 3)).toNatClampNeg a) 74 3)).toNatClampNeg then none else
    go15 (ga_up (ga_up (ga_up s210 74 (13 + (s210 74 3)).toNatClampNeg a) 74 (21 + ((ga_up s210 74 (13 + (s210 74 3)).toNatClampNeg a) 74 3)).toNatClampNeg x) 74 3 (((ga_up (ga_up s210 74 (13 + (s210 74 3)).toNatClampNeg a) 74 (21 + ((ga_up s210 74 (13 + (s210 74 3)).toNatClampNeg a) 74 3)).toNatClampNeg x) 74 3) + 1))
  else some s210
theorem z_tEnd (h : mZ t) (go15 : ga_M → Option ga_M) (a x : Int32) : tEndM go15 a x t = some t := by
  unfold tEndM
  rw [z_must h w_semi, Option.bind_some, if_neg (z_le h)]
/-- the end of a teacher's row -/
theorem l_tEnd (hT : tOk T L) (hB : dBd N) (hN3 : N 3 < 8) {st : Nat} (h : pOk T L st N Q s t) (go15 : ga_M → Option ga_M) (a x : Int32) :
    (∃ st2 s2 t2, tEnd a x s = some (1, s2) ∧ tEndM go15 a x t = go15 t2 ∧ pOk T L st2 (nU N 3 (N 3 + 1)) (pS (pS Q 2 (N 3) a) 3 (N 3) x) s2 t2 ∧ pFc s s2 ∧ pFm t t2) ∨
    ∃ s2 t2, tEnd a x s = some (0, s2) ∧ tEndM go15 a x t = some t2 ∧ tBad s2 t2 ∧ pFc s s2 ∧ pFm t t2 := by
  unfold tEnd tEndM
  obtain ⟨k1, k2⟩ := c_addTeacher hN3 h.2.1 a x
  have h' : tOkay T L st (v_X7_addTeacher_49 a x s) t := tOkay_c (k2 45 (by decide) (by decide) (by decide)) (k2 47 (by decide) (by decide) (by decide)) rfl rfl h.1
  have f1 : pFc s (v_X7_addTeacher_49 a x s) := fun c _ hc => k2 c (by omega) (by omega) (by omega)
  rcases l_semi hT h' with ⟨s3, t3, c1, c2, c3, c4, c5⟩ | ⟨s3, t3, c1, c2, c3, c4, c5⟩
  · left
    rw [c1, c2, Option.bind_some, Option.bind_some]
    dsimp only
    have hM3 := dM2_m c5 h.2.2
    rw [c3.2.2.2.2.1, if_pos (show (0 : Int32) ≤ 0 by decide), hM3.1 3 (by omega), d_a13, if_neg (nI_in (c := 13 + N 3) (N := 235) (by omega) (by omega)), d_cl (show 13 + N 3 < 2147483648 by omega)]
    have hr : dM2 74 N (pS Q 2 (N 3) a) (ga_up t3 74 (13 + N 3) a) := dM2_row (i := 2) (k := N 3) hB (by omega) (by omega) (by unfold cap; simp; omega) a hM3
    have hr2 : dM2 74 N (pS (pS Q 2 (N 3) a) 3 (N 3) x) (ga_up (ga_up t3 74 (13 + N 3) a) 74 (21 + N 3) x) := dM2_row (i := 3) (k := N 3) hB (by omega) (by omega) (by unfold cap; simp; omega) x hr
    rw [hr.1 3 (by omega), d_a21, if_neg (nI_in (c := 21 + N 3) (N := 235) (by omega) (by omega)), d_cl (show 21 + N 3 < 2147483648 by omega), hr2.1 3 (by omega), d_p1]
    have hcnt := dM2_cnt (i := 3) (v := N 3 + 1) (by omega) hr2 (Or.inr (Or.inl ⟨rfl, fun y hy hy9 hg => by
      rcases gov_23 y (by omega) hy hg with rfl | rfl
      · show (ga_up (ga_up t3 74 (13 + N 3) a) 74 (21 + N 3) x) 74 (13 + N 3) = _
        rw [d_up_nk (by omega), d_up_eq, pS_ne (by omega), pS_eq]
      · show (ga_up (ga_up t3 74 (13 + N 3) a) 74 (21 + N 3) x) 74 (21 + N 3) = _
        rw [d_up_eq, pS_eq]⟩))
    refine ⟨_, s3, _, rfl, rfl, ⟨tOkay_c rfl rfl (by rw [d_up_ne (by decide), d_up_ne (by decide), d_up_ne (by decide)]) (by rw [d_up_ne (by decide), d_up_ne (by decide), d_up_ne (by decide)]) c3, dC2_t c4 k1, hcnt⟩, pFc_trans f1 (pFc_t c4), pFm_trans (pFm_m c5) (pFm_trans (pFm_up _ _ _) (pFm_trans (pFm_up _ _ _) (pFm_up _ _ _)))⟩
  · right
    rw [c1, c2, Option.bind_some, Option.bind_some]
    dsimp only
    rw [if_neg (z_le c3.2.2)]
    exact ⟨s3, t3, rfl, rfl, c3, pFc_trans f1 (pFc_t c4), pFm_m c5⟩
theorem m_h46 (go15 : ga_M → Option ga_M) (n : Nat) (a x : Int32) (t : ga_M) : f_X12_readTeachers_h46 go15 (n + 1) a x t = (f_X12_see 0 ((t 74 2) - 1) t).bind fun q201 =>
    (f_X12_goOn (if (v_X12_has x q201.1 q201.2) = 0 then q201.2 else v_X12_wrong 3 q201.2)).bind fun s204 =>
      if (s204 72 16) = 0 then (f_X12_isDigitAt (s204 72 13) s204).bind fun x209 => if x209 = 0 then tEndM go15 a (x ||| (1 <<< (q201.1 &&& 31))) s204 else f_X12_readTeachers_h46 go15 n a (x ||| (1 <<< (q201.1 &&& 31))) s204
      else tEndM go15 a (x ||| (1 <<< (q201.1 &&& 31))) s204 := by
  rw [f_X12_readTeachers_h46]
  congr 1
  funext q201
  dsimp only
  split
  · rfl
  · rfl
/-- a teacher's subjects -/
theorem l_tSub (hT : tOk T L) (hB : dBd N) (hN2 : 1 ≤ N 2) (hN3 : N 3 < 8) (go15 : ga_M → Option ga_M) (a : Int32) : ∀ (m k n1 n2 st : Nat) (x : Int32) (s t : ga_M), k + m = 6 → m + 1 < n1 → m + 1 < n2 → (k = 0 ∨ tK T L st = 2) → nCt (fun i => bt x i) (N 2) 0 = k → pOk T L st N Q s t →
    (∃ st2 s2 t2 y, f_X8_readTeacher_h21 n1 a x (nI k) s = some (1, s2) ∧ f_X12_readTeachers_h46 go15 n2 a x t = go15 t2 ∧ pOk T L st2 (nU N 3 (N 3 + 1)) (pS (pS Q 2 (N 3) a) 3 (N 3) y) s2 t2 ∧ pFc s s2 ∧ pFm t t2) ∨
    ∃ s2 t2, f_X8_readTeacher_h21 n1 a x (nI k) s = some (0, s2) ∧ f_X12_readTeachers_h46 go15 n2 a x t = some t2 ∧ tBad s2 t2 ∧ pFc s s2 ∧ pFm t t2 := by
  have hB2 := hB
  obtain ⟨hB2, _⟩ := hB2
  intro m
  induction m with
  | zero =>
    intro k n1 n2 st x s t hk hn1 hn2 hkk hcnt h
    obtain ⟨n1, rfl⟩ : ∃ j, n1 = j + 1 := ⟨n1 - 1, by omega⟩
    obtain ⟨n2, rfl⟩ : ∃ j, n2 = j + 1 := ⟨n2 - 1, by omega⟩
    have h5 := tK_lt T L st
    have hk6 : k = 6 := by omega
    have hk2 : tK T L st = 2 := by omega
    have hstep : f_X8_readTeacher_h21 (n1 + 1) a x (nI k) s = tBody (fun x s => f_X8_readTeacher_h21 n1 a x (nI (k + 1)) s) x s := by
      rw [f_X8_readTeacher_h21]
      dsimp only
      rw [if_neg (show ¬ (6 : Int32) < nI k from nI_nlt (a := 6) (by omega) (by omega)), if_neg (nI_ne0 (by omega) (by omega)), h.1.1.2.2.1, hk2, if_pos (show nI 2 = 2 from rfl), d_p1]
      rfl
    rw [hstep, m_h46]
    unfold tBody
    rw [h.2.1.1 2 (by omega), h.2.2.1 2 (by omega), show nI (N 2) - 1 = nI (N 2 - 1) from pk_sub (a := N 2) (b := 1) (by omega)]
    rcases p_see hT (lo := 0) (hi := N 2 - 1) (by omega) (by omega) h with ⟨v, _, hv, b1, b2, b3⟩ | ⟨s2, t2, b1, b2, b3, b4, b5⟩
    · rw [show v_X8_checkNumber 0 (nI (N 2 - 1)) s = (1, s) from b1, show f_X12_see 0 (nI (N 2 - 1)) t = some (nI v, t) from b3, Option.bind_some]
      dsimp only
      rw [if_neg (show ¬ (1 : Int32) = 0 by decide)]
      simp only [b2, dc_hasBit (show v < 31 by omega), dm_has, b_hb x (show v < 32 by omega)]
      cases hb : bt x v
      · exfalso
        have e := nCt_set (p := fun i => bt x i) (q := fun i => bt x i || decide (i = v)) (v := v) hb (fun _ => rfl) (N 2) 0
        have e2 := nCt_le (p := fun i => bt x i || decide (i = v)) (N 2) 0
        rw [if_pos (by omega)] at e
        omega
      · rw [if_neg (show ¬ aB true = 0 by decide), if_neg (show ¬ aB true = 0 by decide)]
        obtain ⟨s2, t2, g1, g2, g3, g4, g5⟩ := p_fail h (k := 3) (by omega) (by omega)
        rw [show v_X8_fail 3 s = (0, s2) from g1, show v_X12_wrong 3 t = t2 from g2, z_goOn g3.2.2, Option.bind_some, if_neg (z_ne g3.2.2), z_tEnd g3.2.2]
        exact Or.inr ⟨s2, t2, rfl, rfl, g3, g4, g5⟩
    · rw [show v_X8_checkNumber 0 (nI (N 2 - 1)) s = (0, s2) from b1, show f_X12_see 0 (nI (N 2 - 1)) t = some (0, t2) from b2, Option.bind_some]
      dsimp only
      rw [if_pos rfl, z_wrong b3.2.2]
      have : (if v_X12_has x 0 t2 = 0 then t2 else t2) = t2 := by split <;> rfl
      rw [this, z_goOn b3.2.2, Option.bind_some, if_neg (z_ne b3.2.2), z_tEnd b3.2.2]
      exact Or.inr ⟨s2, t2, rfl, rfl, b3, b4, b5⟩
  | succ m ih =>
    intro k n1 n2 st x s t hk hn1 hn2 hkk hcnt h
    obtain ⟨n1, rfl⟩ : ∃ j, n1 = j + 2 := ⟨n1 - 2, by omega⟩
    obtain ⟨n2, rfl⟩ : ∃ j, n2 = j + 2 := ⟨n2 - 2, by omega⟩
    have h5 := tK_lt T L st
    have hstep : f_X8_readTeacher_h21 (n1 + 2) a x (nI k) s = tBody (fun x s => f_X8_readTeacher_h21 (n1 + 1) a x (nI (k + 1)) s) x s := by
      rw [f_X8_readTeacher_h21]
      dsimp only
      rw [if_neg (show ¬ (6 : Int32) < nI k from nI_nlt (a := 6) (by omega) (by omega)), d_p1]
      by_cases k0 : k = 0
      · rw [if_pos (by rw [k0]; rfl)]; rfl
      · rw [if_neg (nI_ne0 (by omega) (by omega)), h.1.1.2.2.1, show tK T L st = 2 by omega, if_pos (show nI 2 = 2 from rfl)]; rfl
    rw [hstep, m_h46]
    unfold tBody
    rw [h.2.1.1 2 (by omega), h.2.2.1 2 (by omega), show nI (N 2) - 1 = nI (N 2 - 1) from pk_sub (a := N 2) (b := 1) (by omega)]
    rcases p_see hT (lo := 0) (hi := N 2 - 1) (by omega) (by omega) h with ⟨v, _, hv, b1, b2, b3⟩ | ⟨s2, t2, b1, b2, b3, b4, b5⟩
    · rw [show v_X8_checkNumber 0 (nI (N 2 - 1)) s = (1, s) from b1, show f_X12_see 0 (nI (N 2 - 1)) t = some (nI v, t) from b3, Option.bind_some]
      dsimp only
      rw [if_neg (show ¬ (1 : Int32) = 0 by decide)]
      simp only [b2, dc_hasBit (show v < 31 by omega), dm_has, b_hb x (show v < 32 by omega)]
      cases hb : bt x v
      · rw [if_pos (show aB false = 0 from rfl), if_pos (show aB false = 0 from rfl)]
        obtain ⟨s1, t1, _, c1, c2, c3, c4, c5⟩ := p_go hT h
        rw [c1, c2, Option.bind_some, Option.bind_some]
        dsimp only
        rw [b2, c3.1.2.2.2.2.1, if_pos rfl, c3.1.2.1.2.2.1, m_isDigitAt hT c3.1.2.1.1 (by have := c3.1.2.1.2.1; have := hT.1; omega), Option.bind_some, tK_dig]
        have hcnt2 : nCt (fun i => bt (x ||| (1 <<< (nI v &&& 31))) i) (N 2) 0 = k + 1 := by
          have e := nCt_set (p := fun i => bt x i) (q := fun i => bt x i || decide (i = v)) (v := v) hb (fun _ => rfl) (N 2) 0
          rw [if_pos (by omega), hcnt] at e
          rw [← e]
          have key : ∀ mm kk, kk + mm ≤ 32 → nCt (fun i => bt (x ||| (1 <<< (nI v &&& 31))) i) mm kk = nCt (fun i => bt x i || decide (i = v)) mm kk := by
            intro mm
            induction mm with
            | zero => intro kk _; rfl
            | succ mm ihm =>
              intro kk hkk
              unfold nCt
              rw [ihm (kk + 1) (by omega), b_or, b_bit v (by omega) (show kk < 32 by omega)]
          exact key (N 2) 0 (by omega)
        have hle := nCt_le (p := fun i => bt (x ||| (1 <<< (nI v &&& 31))) i) (N 2) 0
        by_cases ck : tK T L (tX T L st) = 2
        · rw [decide_eq_true ck, if_neg (show ¬ aB true = 0 by decide)]
          rcases ih (k + 1) (n1 + 1) (n2 + 1) (tX T L st) (x ||| (1 <<< (nI v &&& 31))) s1 t1 (by omega) (by omega) (by omega) (Or.inr ck) hcnt2 c3 with ⟨st2, s2, t2, y, g1, g2, g3, g4, g5⟩ | ⟨s2, t2, g1, g2, g3, g4, g5⟩
          · exact Or.inl ⟨st2, s2, t2, y, g1, g2, g3, pFc_trans c4 g4, pFm_trans c5 g5⟩
          · exact Or.inr ⟨s2, t2, g1, g2, g3, pFc_trans c4 g4, pFm_trans c5 g5⟩
        · rw [decide_eq_false ck, if_pos (show aB false = 0 from rfl)]
          have h52 := tK_lt T L (tX T L st)
          have hend : f_X8_readTeacher_h21 (n1 + 1) a (x ||| (1 <<< (nI v &&& 31))) (nI (k + 1)) s1 = tEnd a (x ||| (1 <<< (nI v &&& 31))) s1 := by
            rw [f_X8_readTeacher_h21]
            dsimp only
            rw [if_neg (show ¬ (6 : Int32) < nI (k + 1) from nI_nlt (a := 6) (by omega) (by omega)), if_neg (nI_ne0 (by omega) (by omega)), c3.1.1.2.2.1, if_neg (show ¬ nI (tK T L (tX T L st)) = 2 from fun q => ck ((nI_eq (b := 2) (by omega) (by omega)).mp q))]
            rfl
          rw [hend]
          rcases l_tEnd hT hB hN3 c3 go15 a (x ||| (1 <<< (nI v &&& 31))) with ⟨st2, s2, t2, g1, g2, g3, g4, g5⟩ | ⟨s2, t2, g1, g2, g3, g4, g5⟩
          · exact Or.inl ⟨st2, s2, t2, _, g1, g2, g3, pFc_trans c4 g4, pFm_trans c5 g5⟩
          · exact Or.inr ⟨s2, t2, g1, g2, g3, pFc_trans c4 g4, pFm_trans c5 g5⟩
      · rw [if_neg (show ¬ aB true = 0 by decide), if_neg (show ¬ aB true = 0 by decide)]
        obtain ⟨s2, t2, g1, g2, g3, g4, g5⟩ := p_fail h (k := 3) (by omega) (by omega)
        rw [show v_X8_fail 3 s = (0, s2) from g1, show v_X12_wrong 3 t = t2 from g2, z_goOn g3.2.2, Option.bind_some, if_neg (z_ne g3.2.2), z_tEnd g3.2.2]
        exact Or.inr ⟨s2, t2, rfl, rfl, g3, g4, g5⟩
    · rw [show v_X8_checkNumber 0 (nI (N 2 - 1)) s = (0, s2) from b1, show f_X12_see 0 (nI (N 2 - 1)) t = some (0, t2) from b2, Option.bind_some]
      dsimp only
      rw [if_pos rfl, z_wrong b3.2.2]
      have : (if v_X12_has x 0 t2 = 0 then t2 else t2) = t2 := by split <;> rfl
      rw [this, z_goOn b3.2.2, Option.bind_some, if_neg (z_ne b3.2.2), z_tEnd b3.2.2]
      exact Or.inr ⟨s2, t2, rfl, rfl, b3, b4, b5⟩
noncomputable def cBodyT (K : ga_M → Option (Int32 × ga_M)) (s : ga_M) : Option (Int32 × ga_M) :=
  (f_X8_takeWord 1002 s).bind fun q101 => if q101.1 = 0 then some (0, q101.2) else (f_X8_readTeacher q101.2).bind fun q102 => if q102.1 = 0 then some (0, q102.2) else K q102.2
theorem l_bodyT (hT : tOk T L) (hB : dBd N) (hN2 : 1 ≤ N 2) {st : Nat} (hNi : N 3 < 8) (h : pOk T L st N Q s t) (hw : tW T L st [116, 101, 97, 99, 104, 101, 114] = true) (K : ga_M → Option (Int32 × ga_M)) (n : Nat) :
    (∃ st2 s2 t2 a y, cBodyT K s = K s2 ∧ f_X12_readTeachers_h15 (n + 1) t = f_X12_readTeachers_h15 n t2 ∧ pOk T L st2 (nU N 3 (N 3 + 1)) (pS (pS Q 2 (N 3) a) 3 (N 3) y) s2 t2 ∧ pFc s s2 ∧ pFm t t2) ∨
    ∃ s2 t2, cBodyT K s = some (0, s2) ∧ f_X12_readTeachers_h15 (n + 1) t = some t2 ∧ tBad s2 t2 ∧ pFc s s2 ∧ pFm t t2 := by
  have hB2 := hB
  obtain ⟨hB2, _⟩ := hB2
  unfold cBodyT
  rw [f_X12_readTeachers_h15, fe_X8_takeWord]
  unfold fb_X8_takeWord
  dsimp only
  rw [c_isWord hT h.1.1 w_teacher rfl, m_isWord hT h.1.2.1 h.1.2.2.2.2.1 w_teacher2, hw, Option.bind_some, Option.bind_some, if_neg (show ¬ aB true = 0 by decide), if_neg (show ¬ aB true = 0 by decide)]
  rcases p_opens (i := 3) (m := 8) (by omega) (by omega) (by omega) h hT with ⟨_, s1, t1, a1, a2, a3, a4, a5⟩ | ⟨e, _⟩
  · rw [a1, show f_X12_opensThing 3 8 t = some (1, t1) from a2, Option.bind_some, Option.bind_some, Option.bind_some]
    dsimp only
    rw [if_neg (show ¬ (1 : Int32) = 0 by decide), if_neg (show ¬ (1 : Int32) = 0 by decide), fe_X8_readTeacher]
    unfold fb_X8_readTeacher
    rcases p_number hT (lo := 0) (hi := 9) (by omega) (by omega) a3 with ⟨v, _, _, b1, s2, t2, b2, b3, b4, b5, b6⟩ | ⟨s2, t2, b1, b2, b3, b4, b5⟩
    · rw [show v_X8_checkNumber 0 9 s1 = (1, s1) from b1, show f_X12_number 0 9 t1 = some (nI v, t2) from b3]
      dsimp only
      rw [if_neg (show ¬ (1 : Int32) = 0 by decide), b2, Option.bind_some, Option.bind_some]
      dsimp only
      have hf := d_fuel (n := 20) (by omega)
      have h0 : nCt (fun i => bt 0 i) (N 2) 0 = 0 := by
        have key : ∀ mm kk, nCt (fun i => bt 0 i) mm kk = 0 := by
          intro mm
          induction mm with
          | zero => intro kk; rfl
          | succ mm ihm => intro kk; unfold nCt; rw [ihm, b_0]; rfl
        exact key _ _
      rcases l_tSub hT hB hN2 hNi (f_X12_readTeachers_h15 n) (nI v) 6 0 ga_fuel ga_fuel (tX T L (tX T L st)) 0 s2 t2 (by omega) (by omega) (by omega) (Or.inl rfl) h0 b4 with ⟨st3, s3, t3, y, g1, g2, g3, g4, g5⟩ | ⟨s3, t3, g1, g2, g3, g4, g5⟩
      · left
        rw [show f_X8_readTeacher_h21 ga_fuel (nI v) 0 0 s2 = some (1, s3) from g1, Option.bind_some]
        dsimp only
        rw [if_neg (show ¬ (1 : Int32) = 0 by decide)]
        exact ⟨st3, s3, t3, _, y, rfl, g2, g3, pFc_trans a4 (pFc_trans b5 g4), pFm_trans a5 (pFm_trans b6 g5)⟩
      · right
        rw [show f_X8_readTeacher_h21 ga_fuel (nI v) 0 0 s2 = some (0, s3) from g1, Option.bind_some]
        dsimp only
        rw [if_pos rfl]
        exact ⟨s3, t3, rfl, g2, g3, pFc_trans a4 (pFc_trans b5 g4), pFm_trans a5 (pFm_trans b6 g5)⟩
    · right
      rw [show v_X8_checkNumber 0 9 s1 = (0, s2) from b1, show f_X12_number 0 9 t1 = some (0, t2) from b2]
      dsimp only
      rw [if_pos rfl, Option.bind_some, Option.bind_some]
      dsimp only
      rw [if_pos rfl]
      obtain ⟨n3, hn3⟩ : ∃ n3, ga_fuel = n3 + 1 := ⟨ga_fuel - 1, by have := d_fuel (n := 20) (by omega); omega⟩
      rw [hn3, m_h46, z_see b3.2.2, Option.bind_some]
      dsimp only
      rw [z_wrong b3.2.2]
      have : (if v_X12_has 0 0 t2 = 0 then t2 else t2) = t2 := by split <;> rfl
      rw [this, z_goOn b3.2.2, Option.bind_some, if_neg (z_ne b3.2.2), z_tEnd b3.2.2]
      exact ⟨s2, t2, rfl, rfl, b3, pFc_trans a4 b4, pFm_trans a5 b5⟩
  · omega
theorem l_loopT (hT : tOk T L) : ∀ (m k n1 n2 st : Nat) (N : Nat → Nat) (Q : Nat → Nat → Int32) (s t : ga_M), k + m = 8 → 1 ≤ k → k = N 3 → m < n1 → m < n2 → dBd N → 1 ≤ N 2 → pOk T L st N Q s t →
    pR T L s t (f_X8_readTeachers_h2 n1 (nI k) s) (f_X12_readTeachers_h15 n2 t) (fun N2 Q2 => (∀ j, j ≠ 3 → N2 j = N j) ∧ (1 ≤ N2 3 ∧ N2 3 ≤ 8) ∧ ∀ b, b ≠ 2 → b ≠ 3 → Q2 b = Q b) := by
  intro m
  induction m with
  | zero =>
    intro k n1 n2 st N Q s t hk h1 hkN hn1 hn2 hB hN2 h
    obtain ⟨n1, rfl⟩ : ∃ j, n1 = j + 1 := ⟨n1 - 1, by omega⟩
    obtain ⟨n2, rfl⟩ : ∃ j, n2 = j + 1 := ⟨n2 - 1, by omega⟩
    have : k = 8 := by omega
    subst this
    rw [f_X8_readTeachers_h2, f_X12_readTeachers_h15]
    dsimp only
    rw [if_neg (by decide), if_neg (by decide), c_isWord hT h.1.1 w_teacher rfl, m_isWord hT h.1.2.1 h.1.2.2.2.2.1 w_teacher2, Option.bind_some, Option.bind_some]
    cases c : tW T L st [116, 101, 97, 99, 104, 101, 114]
    · rw [if_pos (show aB false = 0 from rfl), if_pos (show aB false = 0 from rfl)]
      exact Or.inl ⟨st, N, Q, s, t, rfl, rfl, h, pFc_refl s, pFm_refl t, fun _ _ => rfl, ⟨by omega, by omega⟩, fun _ _ _ => rfl⟩
    · rw [if_neg (show ¬ aB true = 0 by decide), if_neg (show ¬ aB true = 0 by decide), if_pos (show nI 8 = 8 from rfl)]
      rcases p_opens (i := 3) (m := 8) (by omega) (by omega) (by omega) h hT with ⟨e, _⟩ | ⟨_, s2, t2, g1, g2, g3, g4, g5⟩
      · omega
      · rw [g1, show f_X12_opensThing 3 8 t = some (0, t2) from g2, Option.bind_some]
        dsimp only
        rw [if_pos rfl]
        exact Or.inr ⟨s2, t2, rfl, rfl, g3, g4, g5⟩
  | succ m ih =>
    intro k n1 n2 st N Q s t hk h1 hkN hn1 hn2 hB hN2 h
    obtain ⟨n1, rfl⟩ : ∃ j, n1 = j + 1 := ⟨n1 - 1, by omega⟩
    obtain ⟨n2, rfl⟩ : ∃ j, n2 = j + 1 := ⟨n2 - 1, by omega⟩
    have hstep : f_X8_readTeachers_h2 (n1 + 1) (nI k) s = (f_X10_isWord 1002 s).bind fun x108 => if x108 = 0 then some (1, s) else cBodyT (fun s => f_X8_readTeachers_h2 n1 (nI (k + 1)) s) s := by
      rw [f_X8_readTeachers_h2]
      dsimp only
      have e6 : ¬ nI k = 8 := fun e => by
        have := (nI_eq (b := 8) (show k < 2 ^ 31 by omega) (by omega)).mp e
        omega
      rw [if_neg (show ¬ (8 : Int32) < nI k from nI_nlt (a := 8) (by omega) (by omega)), if_neg (nI_ne0 (by omega) (by omega)), if_neg e6, d_p1]
      rfl
    rw [hstep, c_isWord hT h.1.1 w_teacher rfl, Option.bind_some]
    cases c : tW T L st [116, 101, 97, 99, 104, 101, 114]
    · rw [if_pos (show aB false = 0 from rfl), f_X12_readTeachers_h15, m_isWord hT h.1.2.1 h.1.2.2.2.2.1 w_teacher2, c, Option.bind_some, if_pos (show aB false = 0 from rfl)]
      exact Or.inl ⟨st, N, Q, s, t, rfl, rfl, h, pFc_refl s, pFm_refl t, fun _ _ => rfl, ⟨by omega, by omega⟩, fun _ _ _ => rfl⟩
    · rw [if_neg (show ¬ aB true = 0 by decide)]
      rcases l_bodyT hT hB hN2 (by omega) h c (fun s => f_X8_readTeachers_h2 n1 (nI (k + 1)) s) n2 with ⟨st2, s2, t2, a, y, g1, g2, g3, g4, g5⟩ | ⟨s2, t2, g1, g2, g3, g4, g5⟩
      · rw [g1, g2]
        rcases ih (k + 1) n1 n2 st2 _ _ s2 t2 (by omega) (by omega) (by rw [nU_eq]; omega) (by omega) (by omega) (dBd_u hB (by simp; omega)) (by rw [nU_ne (by omega)]; exact hN2) g3 with ⟨st3, N3, Q3, s3, t3, k1, k2, k3, k4, k5, k6, k7, k8⟩ | ⟨s3, t3, k1, k2, k3, k4, k5⟩
        · exact Or.inl ⟨st3, N3, Q3, s3, t3, k1, k2, k3, pFc_trans g4 k4, pFm_trans g5 k5, fun j hj => by rw [k6 j hj, nU_ne hj], k7, fun b hb hb2 => by rw [k8 b hb hb2]; funext x; rw [pS_ne (by omega), pS_ne (by omega)]⟩
        · exact Or.inr ⟨s3, t3, k1, k2, k3, pFc_trans g4 k4, pFm_trans g5 k5⟩
      · rw [g1, g2]
        exact Or.inr ⟨s2, t2, rfl, rfl, g3, g4, g5⟩
theorem l_Teachers (hT : tOk T L) {st : Nat} (hB : dBd N) (hN2 : 1 ≤ N 2) (hNi : N 3 = 0) (h : pOk T L st N Q s t) :
    pR T L s t (f_X8_readTeachers s) (f_X12_readTeachers t) (fun N2 Q2 => (∀ j, j ≠ 3 → N2 j = N j) ∧ (1 ≤ N2 3 ∧ N2 3 ≤ 8) ∧ ∀ b, b ≠ 2 → b ≠ 3 → Q2 b = Q b) := by
  rw [fe_X8_readTeachers, fe_X12_readTeachers]
  unfold fb_X8_readTeachers fb_X12_readTeachers
  rw [m_isWord hT h.1.2.1 h.1.2.2.2.2.1 w_teacher2, Option.bind_some]
  obtain ⟨n, hn⟩ : ∃ n, ga_fuel = n + 1 := ⟨ga_fuel - 1, by have := d_fuel (n := 20) (by omega); omega⟩
  have hn7 : 9 < n := by have := d_fuel (n := 20) (by omega); omega
  have hstep : f_X8_readTeachers_h2 ga_fuel 0 s = cBodyT (fun s => f_X8_readTeachers_h2 n (nI 1) s) s := by
    rw [hn, f_X8_readTeachers_h2]
    dsimp only
    rw [if_neg (by decide), if_pos rfl, if_neg (by decide)]
    rfl
  rw [hstep]
  cases c : tW T L st [116, 101, 97, 99, 104, 101, 114]
  · rw [if_pos (show aB false = 0 from rfl)]
    obtain ⟨s2, t2, g1, g2, g3, g4, g5⟩ := p_fail h (k := 1) (by omega) (by omega)
    unfold cBodyT
    rw [fe_X8_takeWord]
    unfold fb_X8_takeWord
    rw [c_isWord hT h.1.1 w_teacher rfl, c, Option.bind_some, if_pos (show aB false = 0 from rfl)]
    dsimp only
    rw [show v_X8_fail 1 s = (0, s2) from g1, Option.bind_some]
    dsimp only
    rw [if_pos rfl, show v_X12_wrong 1 t = t2 from g2, hn, f_X12_readTeachers_h15, z_isWord g3.2.2 w_teacher2, Option.bind_some, if_pos rfl]
    exact Or.inr ⟨s2, t2, rfl, rfl, g3, g4, g5⟩
  · rw [if_neg (show ¬ aB true = 0 by decide)]
    have hb := l_bodyT hT hB hN2 (by omega) h c (fun s => f_X8_readTeachers_h2 n (nI 1) s) n
    rw [← hn] at hb
    rcases hb with ⟨st2, s2, t2, a, y, g1, g2, g3, g4, g5⟩ | ⟨s2, t2, g1, g2, g3, g4, g5⟩
    · rw [g1, g2]
      rcases l_loopT hT 7 1 n n st2 _ _ s2 t2 (by omega) (by omega) (by rw [nU_eq]; omega) (by omega) (by omega) (dBd_u hB (by simp; omega)) (by rw [nU_ne (by omega)]; exact hN2) g3 with ⟨st3, N3, Q3, s3, t3, k1, k2, k3, k4, k5, k6, k7, k8⟩ | ⟨s3, t3, k1, k2, k3, k4, k5⟩
      · exact Or.inl ⟨st3, N3, Q3, s3, t3, k1, k2, k3, pFc_trans g4 k4, pFm_trans g5 k5, fun j hj => by rw [k6 j hj, nU_ne hj], k7, fun b hb hb2 => by rw [k8 b hb hb2]; funext x; rw [pS_ne (by omega), pS_ne (by omega)]⟩
      · exact Or.inr ⟨s3, t3, k1, k2, k3, pFc_trans g4 k4, pFm_trans g5 k5⟩
    · rw [g1, g2]
      exact Or.inr ⟨s2, t2, rfl, rfl, g3, g4, g5⟩
end D49
